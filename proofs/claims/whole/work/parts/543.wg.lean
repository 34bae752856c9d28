/-! wg -/
def T_V_sln : ZT := fun args I L R S Q => ∃ (k : Nat) (w : List Int) (v : Int), args = [zvr k, zvl v] ∧ (zDy zT20 zF20 k R S) ∧ (zPO k w I) ∧ (w.length + 12 ≤ 110000) ∧ (-1000000000 ≤ v ∧ v ≤ 1000000000) ∧ ∀ (I' : ZI), (zPO k (w ++ (wWh (wAb v / 1000000) ++ wFr (wAb v % 1000000))) I') → (∀ c j : Nat, ¬ (c = k ∧ j = 26) → ¬ c = k + 12 → I' c j = I c j) → Q none I' L R S
theorem sn_V_sln : ZSnd 3 20 43 T_V_sln := ZSnd.of (zT20_43 2) (by
  rintro args I L R S Q hz ⟨k, w, v, rfl, hD, hP, hl, hv, hQ⟩
  have hk40 := hD.1
  refine And.intro rfl ?_
  refine ⟨_, _, ⟨zW6i (by omega), zW6i (zRL rfl)⟩, fun z2 c2 => ?_⟩
  refine And.intro c2.2.2 ⟨fun h3 => ?_, fun h3 => ?_⟩
  · refine ⟨_, _, ⟨(zW6i (by omega)), (zW6i (zRL rfl)), (by decide)⟩, (zdv (by omega) (fun q19 e19 => ?_))⟩
    refine And.intro (zDX hD 0 rfl) ⟨_, sn_V_whl.up (by decide), ?_⟩
    refine ⟨k, w, (q19 : Int), rfl, hD, (by first | exact (zPO_fr hP (fun c j h => rfl)) | (clear hQ; grind [xu])), (by omega), (by omega), ?_⟩
    intro I20o p20hP2 p20bfr
    refine ⟨_, _, ⟨(zW6i (by omega)), (zW6i (zRL rfl)), (by decide)⟩, (zdv (by omega) (fun q27 e27 => ?_))⟩
    refine ⟨_, _, ⟨zW6i (by omega), zW6i (zRL rfl)⟩, fun z31 c31 => ?_⟩
    refine And.intro c31.2.2 ⟨fun h32 => ?_, fun h32 => ?_⟩
    · refine ⟨_, _, ⟨zW6i (by omega), zW6i (zRL rfl)⟩, fun z48 c48 => ?_⟩
      refine And.intro c48.2.2 ⟨fun h49 => ?_, (fun h49 => False.elim (by omega))⟩
      refine hQ _ ?_ (fun c j h0 h1 => ((p20bfr c j h0 h1).trans rfl))
      · have ea : wAb v / 1000000 = q19 := by unfold wAb; split <;> omega
        have eb : wAb v % 1000000 = q27 := by unfold wAb; split <;> omega
        rw [ea, eb, ← List.append_assoc]
        first
        | (rw [wFr_n (by omega), List.append_nil]
           exact p20hP2)
        | (rw [wFr_y (by omega), wFd_e (k := 5) (r := q27) (d := q56 + 48) (m := q67) (by omega) (by show _ = _ / 100000 + 48; omega) (by show _ = _ % 100000; omega), wFd_e (k := 4) (r := q67) (d := q56b + 48) (m := q67b) (by omega) (by show _ = _ / 10000 + 48; omega) (by show _ = _ % 10000; omega), wFd_e (k := 3) (r := q67b) (d := q56bb + 48) (m := q67bb) (by omega) (by show _ = _ / 1000 + 48; omega) (by show _ = _ % 1000; omega), wFd_e (k := 2) (r := q67bb) (d := q56bbb + 48) (m := q67bbb) (by omega) (by show _ = _ / 100 + 48; omega) (by show _ = _ % 100; omega), wFd_e (k := 1) (r := q67bbb) (d := q56bbbb + 48) (m := q67bbbb) (by omega) (by show _ = _ / 10 + 48; omega) (by show _ = _ % 10; omega), wFd_e (k := 0) (r := q67bbbb) (d := q56bbbbb + 48) (m := q67bbbbb) (by omega) (by show _ = _ / 1 + 48; omega) (by show _ = _ % 1; omega), show wFd 0 q67bbbbb = [] from rfl]
           simpa only [List.append_assoc, List.cons_append, List.nil_append] using p61bbbbbbbbbbhP2)
        | (rw [wFr_y (by omega), wFd_e (k := 5) (r := q27) (d := q56 + 48) (m := q67) (by omega) (by show _ = _ / 100000 + 48; omega) (by show _ = _ % 100000; omega), wFd_e (k := 4) (r := q67) (d := q56b + 48) (m := q67b) (by omega) (by show _ = _ / 10000 + 48; omega) (by show _ = _ % 10000; omega), wFd_e (k := 3) (r := q67b) (d := q56bb + 48) (m := q67bb) (by omega) (by show _ = _ / 1000 + 48; omega) (by show _ = _ % 1000; omega), wFd_e (k := 2) (r := q67bb) (d := q56bbb + 48) (m := q67bbb) (by omega) (by show _ = _ / 100 + 48; omega) (by show _ = _ % 100; omega), wFd_e (k := 1) (r := q67bbb) (d := q56bbbb + 48) (m := q67bbbb) (by omega) (by show _ = _ / 10 + 48; omega) (by show _ = _ % 10; omega), wFd_n (by omega)]
           simpa only [List.append_assoc, List.cons_append, List.nil_append] using p61bbbbbbbbhP2)
        | (rw [wFr_y (by omega), wFd_e (k := 5) (r := q27) (d := q56 + 48) (m := q67) (by omega) (by show _ = _ / 100000 + 48; omega) (by show _ = _ % 100000; omega), wFd_e (k := 4) (r := q67) (d := q56b + 48) (m := q67b) (by omega) (by show _ = _ / 10000 + 48; omega) (by show _ = _ % 10000; omega), wFd_e (k := 3) (r := q67b) (d := q56bb + 48) (m := q67bb) (by omega) (by show _ = _ / 1000 + 48; omega) (by show _ = _ % 1000; omega), wFd_e (k := 2) (r := q67bb) (d := q56bbb + 48) (m := q67bbb) (by omega) (by show _ = _ / 100 + 48; omega) (by show _ = _ % 100; omega), wFd_n (by omega)]
           simpa only [List.append_assoc, List.cons_append, List.nil_append] using p61bbbbbbhP2)
        | (rw [wFr_y (by omega), wFd_e (k := 5) (r := q27) (d := q56 + 48) (m := q67) (by omega) (by show _ = _ / 100000 + 48; omega) (by show _ = _ % 100000; omega), wFd_e (k := 4) (r := q67) (d := q56b + 48) (m := q67b) (by omega) (by show _ = _ / 10000 + 48; omega) (by show _ = _ % 10000; omega), wFd_e (k := 3) (r := q67b) (d := q56bb + 48) (m := q67bb) (by omega) (by show _ = _ / 1000 + 48; omega) (by show _ = _ % 1000; omega), wFd_n (by omega)]
           simpa only [List.append_assoc, List.cons_append, List.nil_append] using p61bbbbhP2)
        | (rw [wFr_y (by omega), wFd_e (k := 5) (r := q27) (d := q56 + 48) (m := q67) (by omega) (by show _ = _ / 100000 + 48; omega) (by show _ = _ % 100000; omega), wFd_e (k := 4) (r := q67) (d := q56b + 48) (m := q67b) (by omega) (by show _ = _ / 10000 + 48; omega) (by show _ = _ % 10000; omega), wFd_n (by omega)]
           simpa only [List.append_assoc, List.cons_append, List.nil_append] using p61bbhP2)
        | (rw [wFr_y (by omega), wFd_e (k := 5) (r := q27) (d := q56 + 48) (m := q67) (by omega) (by show _ = _ / 100000 + 48; omega) (by show _ = _ % 100000; omega), wFd_n (by omega)]
           simpa only [List.append_assoc, List.cons_append, List.nil_append] using p61hP2)
    · refine And.intro (zDX hD 0 rfl) ⟨_, sn_V_say.up (by decide), ?_⟩
      refine ⟨k, (w ++ wWh q19), (46 : Int), rfl, hD, p20hP2, (by simp only [List.length_append, List.length_cons, List.length_nil]; have z := wWh_l (v := q19); omega), (by omega), ?_⟩
      intro I38o p38hP2 p38bfr
      refine ⟨_, _, ⟨zW6i (by omega), zW6i (zRL rfl)⟩, fun z48 c48 => ?_⟩
      refine And.intro c48.2.2 ⟨(fun h49 => False.elim (by omega)), fun h49 => ?_⟩
      refine ⟨_, _, ⟨(zW6i (by omega)), (zW6i (zRL rfl)), (by decide)⟩, (zdv (by omega) (fun q56 e56 => ?_))⟩
      refine ⟨_, (zWi (by omega)), ?_⟩
      refine And.intro (zDX hD 0 rfl) ⟨_, sn_V_say.up (by decide), ?_⟩
      refine ⟨_, _, ((q56 + 48) : Int), rfl, hD, (by first | exact p61bbbbbbbbhP2 | exact p61bbbbbbhP2 | exact p61bbbbhP2 | exact p61bbhP2 | exact p61hP2 | exact p38hP2), (by simp only [List.length_append, List.length_cons, List.length_nil]; have z := wWh_l (v := q19); omega), (by omega), ?_⟩
      intro I61o p61hP2 p61bfr
      refine ⟨_, _, ⟨(zW6i (by omega)), (zW6i (zRL rfl)), (by decide)⟩, (zdv (by omega) (fun q67 e67 => ?_))⟩
      refine ⟨_, _, ⟨(zW6i (zRL rfl)), (zW6i (zRL rfl)), (by decide)⟩, (zdv (by omega) (fun q74 e74 => ?_))⟩
      obtain rfl : q74 = 10000 := (by omega)
      refine ⟨_, _, ⟨zW6i (by omega), zW6i (zRL rfl)⟩, fun z48b c48b => ?_⟩
      refine And.intro c48b.2.2 ⟨fun h49b => ?_, fun h49b => ?_⟩
      · refine hQ _ ?_ (fun c j h0 h1 => ((p61bfr c j h0 h1).trans ((p38bfr c j h0 h1).trans ((p20bfr c j h0 h1).trans rfl))))
        · have ea : wAb v / 1000000 = q19 := by unfold wAb; split <;> omega
          have eb : wAb v % 1000000 = q27 := by unfold wAb; split <;> omega
          rw [ea, eb, ← List.append_assoc]
          first
          | (rw [wFr_n (by omega), List.append_nil]
             exact p20hP2)
          | (rw [wFr_y (by omega), wFd_e (k := 5) (r := q27) (d := q56 + 48) (m := q67) (by omega) (by show _ = _ / 100000 + 48; omega) (by show _ = _ % 100000; omega), wFd_e (k := 4) (r := q67) (d := q56b + 48) (m := q67b) (by omega) (by show _ = _ / 10000 + 48; omega) (by show _ = _ % 10000; omega), wFd_e (k := 3) (r := q67b) (d := q56bb + 48) (m := q67bb) (by omega) (by show _ = _ / 1000 + 48; omega) (by show _ = _ % 1000; omega), wFd_e (k := 2) (r := q67bb) (d := q56bbb + 48) (m := q67bbb) (by omega) (by show _ = _ / 100 + 48; omega) (by show _ = _ % 100; omega), wFd_e (k := 1) (r := q67bbb) (d := q56bbbb + 48) (m := q67bbbb) (by omega) (by show _ = _ / 10 + 48; omega) (by show _ = _ % 10; omega), wFd_e (k := 0) (r := q67bbbb) (d := q56bbbbb + 48) (m := q67bbbbb) (by omega) (by show _ = _ / 1 + 48; omega) (by show _ = _ % 1; omega), show wFd 0 q67bbbbb = [] from rfl]
             simpa only [List.append_assoc, List.cons_append, List.nil_append] using p61bbbbbbbbbbhP2)
          | (rw [wFr_y (by omega), wFd_e (k := 5) (r := q27) (d := q56 + 48) (m := q67) (by omega) (by show _ = _ / 100000 + 48; omega) (by show _ = _ % 100000; omega), wFd_e (k := 4) (r := q67) (d := q56b + 48) (m := q67b) (by omega) (by show _ = _ / 10000 + 48; omega) (by show _ = _ % 10000; omega), wFd_e (k := 3) (r := q67b) (d := q56bb + 48) (m := q67bb) (by omega) (by show _ = _ / 1000 + 48; omega) (by show _ = _ % 1000; omega), wFd_e (k := 2) (r := q67bb) (d := q56bbb + 48) (m := q67bbb) (by omega) (by show _ = _ / 100 + 48; omega) (by show _ = _ % 100; omega), wFd_e (k := 1) (r := q67bbb) (d := q56bbbb + 48) (m := q67bbbb) (by omega) (by show _ = _ / 10 + 48; omega) (by show _ = _ % 10; omega), wFd_n (by omega)]
             simpa only [List.append_assoc, List.cons_append, List.nil_append] using p61bbbbbbbbhP2)
          | (rw [wFr_y (by omega), wFd_e (k := 5) (r := q27) (d := q56 + 48) (m := q67) (by omega) (by show _ = _ / 100000 + 48; omega) (by show _ = _ % 100000; omega), wFd_e (k := 4) (r := q67) (d := q56b + 48) (m := q67b) (by omega) (by show _ = _ / 10000 + 48; omega) (by show _ = _ % 10000; omega), wFd_e (k := 3) (r := q67b) (d := q56bb + 48) (m := q67bb) (by omega) (by show _ = _ / 1000 + 48; omega) (by show _ = _ % 1000; omega), wFd_e (k := 2) (r := q67bb) (d := q56bbb + 48) (m := q67bbb) (by omega) (by show _ = _ / 100 + 48; omega) (by show _ = _ % 100; omega), wFd_n (by omega)]
             simpa only [List.append_assoc, List.cons_append, List.nil_append] using p61bbbbbbhP2)
          | (rw [wFr_y (by omega), wFd_e (k := 5) (r := q27) (d := q56 + 48) (m := q67) (by omega) (by show _ = _ / 100000 + 48; omega) (by show _ = _ % 100000; omega), wFd_e (k := 4) (r := q67) (d := q56b + 48) (m := q67b) (by omega) (by show _ = _ / 10000 + 48; omega) (by show _ = _ % 10000; omega), wFd_e (k := 3) (r := q67b) (d := q56bb + 48) (m := q67bb) (by omega) (by show _ = _ / 1000 + 48; omega) (by show _ = _ % 1000; omega), wFd_n (by omega)]
             simpa only [List.append_assoc, List.cons_append, List.nil_append] using p61bbbbhP2)
          | (rw [wFr_y (by omega), wFd_e (k := 5) (r := q27) (d := q56 + 48) (m := q67) (by omega) (by show _ = _ / 100000 + 48; omega) (by show _ = _ % 100000; omega), wFd_e (k := 4) (r := q67) (d := q56b + 48) (m := q67b) (by omega) (by show _ = _ / 10000 + 48; omega) (by show _ = _ % 10000; omega), wFd_n (by omega)]
             simpa only [List.append_assoc, List.cons_append, List.nil_append] using p61bbhP2)
          | (rw [wFr_y (by omega), wFd_e (k := 5) (r := q27) (d := q56 + 48) (m := q67) (by omega) (by show _ = _ / 100000 + 48; omega) (by show _ = _ % 100000; omega), wFd_n (by omega)]
             simpa only [List.append_assoc, List.cons_append, List.nil_append] using p61hP2)
      · refine ⟨_, _, ⟨(zW6i (by omega)), (zW6i (zRL rfl)), (by decide)⟩, (zdv (by omega) (fun q56b e56b => ?_))⟩
        refine ⟨_, (zWi (by omega)), ?_⟩
        refine And.intro (zDX hD 0 rfl) ⟨_, sn_V_say.up (by decide), ?_⟩
        refine ⟨_, _, ((q56b + 48) : Int), rfl, hD, (by first | exact p61bbbbbbbbhP2 | exact p61bbbbbbhP2 | exact p61bbbbhP2 | exact p61bbhP2 | exact p61hP2 | exact p38hP2), (by simp only [List.length_append, List.length_cons, List.length_nil]; have z := wWh_l (v := q19); omega), (by omega), ?_⟩
        intro I61bo p61bbhP2 p61bbbfr
        refine ⟨_, _, ⟨(zW6i (by omega)), (zW6i (zRL rfl)), (by decide)⟩, (zdv (by omega) (fun q67b e67b => ?_))⟩
        refine ⟨_, _, ⟨(zW6i (zRL rfl)), (zW6i (zRL rfl)), (by decide)⟩, (zdv (by omega) (fun q74b e74b => ?_))⟩
        obtain rfl : q74b = 1000 := (by omega)
        refine ⟨_, _, ⟨zW6i (by omega), zW6i (zRL rfl)⟩, fun z48bb c48bb => ?_⟩
        refine And.intro c48bb.2.2 ⟨fun h49bb => ?_, fun h49bb => ?_⟩
        · refine hQ _ ?_ (fun c j h0 h1 => ((p61bbbfr c j h0 h1).trans ((p61bfr c j h0 h1).trans ((p38bfr c j h0 h1).trans ((p20bfr c j h0 h1).trans rfl)))))
          · have ea : wAb v / 1000000 = q19 := by unfold wAb; split <;> omega
            have eb : wAb v % 1000000 = q27 := by unfold wAb; split <;> omega
            rw [ea, eb, ← List.append_assoc]
            first
            | (rw [wFr_n (by omega), List.append_nil]
               exact p20hP2)
            | (rw [wFr_y (by omega), wFd_e (k := 5) (r := q27) (d := q56 + 48) (m := q67) (by omega) (by show _ = _ / 100000 + 48; omega) (by show _ = _ % 100000; omega), wFd_e (k := 4) (r := q67) (d := q56b + 48) (m := q67b) (by omega) (by show _ = _ / 10000 + 48; omega) (by show _ = _ % 10000; omega), wFd_e (k := 3) (r := q67b) (d := q56bb + 48) (m := q67bb) (by omega) (by show _ = _ / 1000 + 48; omega) (by show _ = _ % 1000; omega), wFd_e (k := 2) (r := q67bb) (d := q56bbb + 48) (m := q67bbb) (by omega) (by show _ = _ / 100 + 48; omega) (by show _ = _ % 100; omega), wFd_e (k := 1) (r := q67bbb) (d := q56bbbb + 48) (m := q67bbbb) (by omega) (by show _ = _ / 10 + 48; omega) (by show _ = _ % 10; omega), wFd_e (k := 0) (r := q67bbbb) (d := q56bbbbb + 48) (m := q67bbbbb) (by omega) (by show _ = _ / 1 + 48; omega) (by show _ = _ % 1; omega), show wFd 0 q67bbbbb = [] from rfl]
               simpa only [List.append_assoc, List.cons_append, List.nil_append] using p61bbbbbbbbbbhP2)
            | (rw [wFr_y (by omega), wFd_e (k := 5) (r := q27) (d := q56 + 48) (m := q67) (by omega) (by show _ = _ / 100000 + 48; omega) (by show _ = _ % 100000; omega), wFd_e (k := 4) (r := q67) (d := q56b + 48) (m := q67b) (by omega) (by show _ = _ / 10000 + 48; omega) (by show _ = _ % 10000; omega), wFd_e (k := 3) (r := q67b) (d := q56bb + 48) (m := q67bb) (by omega) (by show _ = _ / 1000 + 48; omega) (by show _ = _ % 1000; omega), wFd_e (k := 2) (r := q67bb) (d := q56bbb + 48) (m := q67bbb) (by omega) (by show _ = _ / 100 + 48; omega) (by show _ = _ % 100; omega), wFd_e (k := 1) (r := q67bbb) (d := q56bbbb + 48) (m := q67bbbb) (by omega) (by show _ = _ / 10 + 48; omega) (by show _ = _ % 10; omega), wFd_n (by omega)]
               simpa only [List.append_assoc, List.cons_append, List.nil_append] using p61bbbbbbbbhP2)
            | (rw [wFr_y (by omega), wFd_e (k := 5) (r := q27) (d := q56 + 48) (m := q67) (by omega) (by show _ = _ / 100000 + 48; omega) (by show _ = _ % 100000; omega), wFd_e (k := 4) (r := q67) (d := q56b + 48) (m := q67b) (by omega) (by show _ = _ / 10000 + 48; omega) (by show _ = _ % 10000; omega), wFd_e (k := 3) (r := q67b) (d := q56bb + 48) (m := q67bb) (by omega) (by show _ = _ / 1000 + 48; omega) (by show _ = _ % 1000; omega), wFd_e (k := 2) (r := q67bb) (d := q56bbb + 48) (m := q67bbb) (by omega) (by show _ = _ / 100 + 48; omega) (by show _ = _ % 100; omega), wFd_n (by omega)]
               simpa only [List.append_assoc, List.cons_append, List.nil_append] using p61bbbbbbhP2)
            | (rw [wFr_y (by omega), wFd_e (k := 5) (r := q27) (d := q56 + 48) (m := q67) (by omega) (by show _ = _ / 100000 + 48; omega) (by show _ = _ % 100000; omega), wFd_e (k := 4) (r := q67) (d := q56b + 48) (m := q67b) (by omega) (by show _ = _ / 10000 + 48; omega) (by show _ = _ % 10000; omega), wFd_e (k := 3) (r := q67b) (d := q56bb + 48) (m := q67bb) (by omega) (by show _ = _ / 1000 + 48; omega) (by show _ = _ % 1000; omega), wFd_n (by omega)]
               simpa only [List.append_assoc, List.cons_append, List.nil_append] using p61bbbbhP2)
            | (rw [wFr_y (by omega), wFd_e (k := 5) (r := q27) (d := q56 + 48) (m := q67) (by omega) (by show _ = _ / 100000 + 48; omega) (by show _ = _ % 100000; omega), wFd_e (k := 4) (r := q67) (d := q56b + 48) (m := q67b) (by omega) (by show _ = _ / 10000 + 48; omega) (by show _ = _ % 10000; omega), wFd_n (by omega)]
               simpa only [List.append_assoc, List.cons_append, List.nil_append] using p61bbhP2)
            | (rw [wFr_y (by omega), wFd_e (k := 5) (r := q27) (d := q56 + 48) (m := q67) (by omega) (by show _ = _ / 100000 + 48; omega) (by show _ = _ % 100000; omega), wFd_n (by omega)]
               simpa only [List.append_assoc, List.cons_append, List.nil_append] using p61hP2)
        · refine ⟨_, _, ⟨(zW6i (by omega)), (zW6i (zRL rfl)), (by decide)⟩, (zdv (by omega) (fun q56bb e56bb => ?_))⟩
          refine ⟨_, (zWi (by omega)), ?_⟩
          refine And.intro (zDX hD 0 rfl) ⟨_, sn_V_say.up (by decide), ?_⟩
          refine ⟨_, _, ((q56bb + 48) : Int), rfl, hD, (by first | exact p61bbbbbbbbhP2 | exact p61bbbbbbhP2 | exact p61bbbbhP2 | exact p61bbhP2 | exact p61hP2 | exact p38hP2), (by simp only [List.length_append, List.length_cons, List.length_nil]; have z := wWh_l (v := q19); omega), (by omega), ?_⟩
          intro I61bbo p61bbbbhP2 p61bbbbbfr
          refine ⟨_, _, ⟨(zW6i (by omega)), (zW6i (zRL rfl)), (by decide)⟩, (zdv (by omega) (fun q67bb e67bb => ?_))⟩
          refine ⟨_, _, ⟨(zW6i (zRL rfl)), (zW6i (zRL rfl)), (by decide)⟩, (zdv (by omega) (fun q74bb e74bb => ?_))⟩
          obtain rfl : q74bb = 100 := (by omega)
          refine ⟨_, _, ⟨zW6i (by omega), zW6i (zRL rfl)⟩, fun z48bbb c48bbb => ?_⟩
          refine And.intro c48bbb.2.2 ⟨fun h49bbb => ?_, fun h49bbb => ?_⟩
          · refine hQ _ ?_ (fun c j h0 h1 => ((p61bbbbbfr c j h0 h1).trans ((p61bbbfr c j h0 h1).trans ((p61bfr c j h0 h1).trans ((p38bfr c j h0 h1).trans ((p20bfr c j h0 h1).trans rfl))))))
            · have ea : wAb v / 1000000 = q19 := by unfold wAb; split <;> omega
              have eb : wAb v % 1000000 = q27 := by unfold wAb; split <;> omega
              rw [ea, eb, ← List.append_assoc]
              first
              | (rw [wFr_n (by omega), List.append_nil]
                 exact p20hP2)
              | (rw [wFr_y (by omega), wFd_e (k := 5) (r := q27) (d := q56 + 48) (m := q67) (by omega) (by show _ = _ / 100000 + 48; omega) (by show _ = _ % 100000; omega), wFd_e (k := 4) (r := q67) (d := q56b + 48) (m := q67b) (by omega) (by show _ = _ / 10000 + 48; omega) (by show _ = _ % 10000; omega), wFd_e (k := 3) (r := q67b) (d := q56bb + 48) (m := q67bb) (by omega) (by show _ = _ / 1000 + 48; omega) (by show _ = _ % 1000; omega), wFd_e (k := 2) (r := q67bb) (d := q56bbb + 48) (m := q67bbb) (by omega) (by show _ = _ / 100 + 48; omega) (by show _ = _ % 100; omega), wFd_e (k := 1) (r := q67bbb) (d := q56bbbb + 48) (m := q67bbbb) (by omega) (by show _ = _ / 10 + 48; omega) (by show _ = _ % 10; omega), wFd_e (k := 0) (r := q67bbbb) (d := q56bbbbb + 48) (m := q67bbbbb) (by omega) (by show _ = _ / 1 + 48; omega) (by show _ = _ % 1; omega), show wFd 0 q67bbbbb = [] from rfl]
                 simpa only [List.append_assoc, List.cons_append, List.nil_append] using p61bbbbbbbbbbhP2)
              | (rw [wFr_y (by omega), wFd_e (k := 5) (r := q27) (d := q56 + 48) (m := q67) (by omega) (by show _ = _ / 100000 + 48; omega) (by show _ = _ % 100000; omega), wFd_e (k := 4) (r := q67) (d := q56b + 48) (m := q67b) (by omega) (by show _ = _ / 10000 + 48; omega) (by show _ = _ % 10000; omega), wFd_e (k := 3) (r := q67b) (d := q56bb + 48) (m := q67bb) (by omega) (by show _ = _ / 1000 + 48; omega) (by show _ = _ % 1000; omega), wFd_e (k := 2) (r := q67bb) (d := q56bbb + 48) (m := q67bbb) (by omega) (by show _ = _ / 100 + 48; omega) (by show _ = _ % 100; omega), wFd_e (k := 1) (r := q67bbb) (d := q56bbbb + 48) (m := q67bbbb) (by omega) (by show _ = _ / 10 + 48; omega) (by show _ = _ % 10; omega), wFd_n (by omega)]
                 simpa only [List.append_assoc, List.cons_append, List.nil_append] using p61bbbbbbbbhP2)
              | (rw [wFr_y (by omega), wFd_e (k := 5) (r := q27) (d := q56 + 48) (m := q67) (by omega) (by show _ = _ / 100000 + 48; omega) (by show _ = _ % 100000; omega), wFd_e (k := 4) (r := q67) (d := q56b + 48) (m := q67b) (by omega) (by show _ = _ / 10000 + 48; omega) (by show _ = _ % 10000; omega), wFd_e (k := 3) (r := q67b) (d := q56bb + 48) (m := q67bb) (by omega) (by show _ = _ / 1000 + 48; omega) (by show _ = _ % 1000; omega), wFd_e (k := 2) (r := q67bb) (d := q56bbb + 48) (m := q67bbb) (by omega) (by show _ = _ / 100 + 48; omega) (by show _ = _ % 100; omega), wFd_n (by omega)]
                 simpa only [List.append_assoc, List.cons_append, List.nil_append] using p61bbbbbbhP2)
              | (rw [wFr_y (by omega), wFd_e (k := 5) (r := q27) (d := q56 + 48) (m := q67) (by omega) (by show _ = _ / 100000 + 48; omega) (by show _ = _ % 100000; omega), wFd_e (k := 4) (r := q67) (d := q56b + 48) (m := q67b) (by omega) (by show _ = _ / 10000 + 48; omega) (by show _ = _ % 10000; omega), wFd_e (k := 3) (r := q67b) (d := q56bb + 48) (m := q67bb) (by omega) (by show _ = _ / 1000 + 48; omega) (by show _ = _ % 1000; omega), wFd_n (by omega)]
                 simpa only [List.append_assoc, List.cons_append, List.nil_append] using p61bbbbhP2)
              | (rw [wFr_y (by omega), wFd_e (k := 5) (r := q27) (d := q56 + 48) (m := q67) (by omega) (by show _ = _ / 100000 + 48; omega) (by show _ = _ % 100000; omega), wFd_e (k := 4) (r := q67) (d := q56b + 48) (m := q67b) (by omega) (by show _ = _ / 10000 + 48; omega) (by show _ = _ % 10000; omega), wFd_n (by omega)]
                 simpa only [List.append_assoc, List.cons_append, List.nil_append] using p61bbhP2)
              | (rw [wFr_y (by omega), wFd_e (k := 5) (r := q27) (d := q56 + 48) (m := q67) (by omega) (by show _ = _ / 100000 + 48; omega) (by show _ = _ % 100000; omega), wFd_n (by omega)]
                 simpa only [List.append_assoc, List.cons_append, List.nil_append] using p61hP2)
          · refine ⟨_, _, ⟨(zW6i (by omega)), (zW6i (zRL rfl)), (by decide)⟩, (zdv (by omega) (fun q56bbb e56bbb => ?_))⟩
            refine ⟨_, (zWi (by omega)), ?_⟩
            refine And.intro (zDX hD 0 rfl) ⟨_, sn_V_say.up (by decide), ?_⟩
            refine ⟨_, _, ((q56bbb + 48) : Int), rfl, hD, (by first | exact p61bbbbbbbbhP2 | exact p61bbbbbbhP2 | exact p61bbbbhP2 | exact p61bbhP2 | exact p61hP2 | exact p38hP2), (by simp only [List.length_append, List.length_cons, List.length_nil]; have z := wWh_l (v := q19); omega), (by omega), ?_⟩
            intro I61bbbo p61bbbbbbhP2 p61bbbbbbbfr
            refine ⟨_, _, ⟨(zW6i (by omega)), (zW6i (zRL rfl)), (by decide)⟩, (zdv (by omega) (fun q67bbb e67bbb => ?_))⟩
            refine ⟨_, _, ⟨(zW6i (zRL rfl)), (zW6i (zRL rfl)), (by decide)⟩, (zdv (by omega) (fun q74bbb e74bbb => ?_))⟩
            obtain rfl : q74bbb = 10 := (by omega)
            refine ⟨_, _, ⟨zW6i (by omega), zW6i (zRL rfl)⟩, fun z48bbbb c48bbbb => ?_⟩
            refine And.intro c48bbbb.2.2 ⟨fun h49bbbb => ?_, fun h49bbbb => ?_⟩
            · refine hQ _ ?_ (fun c j h0 h1 => ((p61bbbbbbbfr c j h0 h1).trans ((p61bbbbbfr c j h0 h1).trans ((p61bbbfr c j h0 h1).trans ((p61bfr c j h0 h1).trans ((p38bfr c j h0 h1).trans ((p20bfr c j h0 h1).trans rfl)))))))
              · have ea : wAb v / 1000000 = q19 := by unfold wAb; split <;> omega
                have eb : wAb v % 1000000 = q27 := by unfold wAb; split <;> omega
                rw [ea, eb, ← List.append_assoc]
                first
                | (rw [wFr_n (by omega), List.append_nil]
                   exact p20hP2)
                | (rw [wFr_y (by omega), wFd_e (k := 5) (r := q27) (d := q56 + 48) (m := q67) (by omega) (by show _ = _ / 100000 + 48; omega) (by show _ = _ % 100000; omega), wFd_e (k := 4) (r := q67) (d := q56b + 48) (m := q67b) (by omega) (by show _ = _ / 10000 + 48; omega) (by show _ = _ % 10000; omega), wFd_e (k := 3) (r := q67b) (d := q56bb + 48) (m := q67bb) (by omega) (by show _ = _ / 1000 + 48; omega) (by show _ = _ % 1000; omega), wFd_e (k := 2) (r := q67bb) (d := q56bbb + 48) (m := q67bbb) (by omega) (by show _ = _ / 100 + 48; omega) (by show _ = _ % 100; omega), wFd_e (k := 1) (r := q67bbb) (d := q56bbbb + 48) (m := q67bbbb) (by omega) (by show _ = _ / 10 + 48; omega) (by show _ = _ % 10; omega), wFd_e (k := 0) (r := q67bbbb) (d := q56bbbbb + 48) (m := q67bbbbb) (by omega) (by show _ = _ / 1 + 48; omega) (by show _ = _ % 1; omega), show wFd 0 q67bbbbb = [] from rfl]
                   simpa only [List.append_assoc, List.cons_append, List.nil_append] using p61bbbbbbbbbbhP2)
                | (rw [wFr_y (by omega), wFd_e (k := 5) (r := q27) (d := q56 + 48) (m := q67) (by omega) (by show _ = _ / 100000 + 48; omega) (by show _ = _ % 100000; omega), wFd_e (k := 4) (r := q67) (d := q56b + 48) (m := q67b) (by omega) (by show _ = _ / 10000 + 48; omega) (by show _ = _ % 10000; omega), wFd_e (k := 3) (r := q67b) (d := q56bb + 48) (m := q67bb) (by omega) (by show _ = _ / 1000 + 48; omega) (by show _ = _ % 1000; omega), wFd_e (k := 2) (r := q67bb) (d := q56bbb + 48) (m := q67bbb) (by omega) (by show _ = _ / 100 + 48; omega) (by show _ = _ % 100; omega), wFd_e (k := 1) (r := q67bbb) (d := q56bbbb + 48) (m := q67bbbb) (by omega) (by show _ = _ / 10 + 48; omega) (by show _ = _ % 10; omega), wFd_n (by omega)]
                   simpa only [List.append_assoc, List.cons_append, List.nil_append] using p61bbbbbbbbhP2)
                | (rw [wFr_y (by omega), wFd_e (k := 5) (r := q27) (d := q56 + 48) (m := q67) (by omega) (by show _ = _ / 100000 + 48; omega) (by show _ = _ % 100000; omega), wFd_e (k := 4) (r := q67) (d := q56b + 48) (m := q67b) (by omega) (by show _ = _ / 10000 + 48; omega) (by show _ = _ % 10000; omega), wFd_e (k := 3) (r := q67b) (d := q56bb + 48) (m := q67bb) (by omega) (by show _ = _ / 1000 + 48; omega) (by show _ = _ % 1000; omega), wFd_e (k := 2) (r := q67bb) (d := q56bbb + 48) (m := q67bbb) (by omega) (by show _ = _ / 100 + 48; omega) (by show _ = _ % 100; omega), wFd_n (by omega)]
                   simpa only [List.append_assoc, List.cons_append, List.nil_append] using p61bbbbbbhP2)
                | (rw [wFr_y (by omega), wFd_e (k := 5) (r := q27) (d := q56 + 48) (m := q67) (by omega) (by show _ = _ / 100000 + 48; omega) (by show _ = _ % 100000; omega), wFd_e (k := 4) (r := q67) (d := q56b + 48) (m := q67b) (by omega) (by show _ = _ / 10000 + 48; omega) (by show _ = _ % 10000; omega), wFd_e (k := 3) (r := q67b) (d := q56bb + 48) (m := q67bb) (by omega) (by show _ = _ / 1000 + 48; omega) (by show _ = _ % 1000; omega), wFd_n (by omega)]
                   simpa only [List.append_assoc, List.cons_append, List.nil_append] using p61bbbbhP2)
                | (rw [wFr_y (by omega), wFd_e (k := 5) (r := q27) (d := q56 + 48) (m := q67) (by omega) (by show _ = _ / 100000 + 48; omega) (by show _ = _ % 100000; omega), wFd_e (k := 4) (r := q67) (d := q56b + 48) (m := q67b) (by omega) (by show _ = _ / 10000 + 48; omega) (by show _ = _ % 10000; omega), wFd_n (by omega)]
                   simpa only [List.append_assoc, List.cons_append, List.nil_append] using p61bbhP2)
                | (rw [wFr_y (by omega), wFd_e (k := 5) (r := q27) (d := q56 + 48) (m := q67) (by omega) (by show _ = _ / 100000 + 48; omega) (by show _ = _ % 100000; omega), wFd_n (by omega)]
                   simpa only [List.append_assoc, List.cons_append, List.nil_append] using p61hP2)
            · refine ⟨_, _, ⟨(zW6i (by omega)), (zW6i (zRL rfl)), (by decide)⟩, (zdv (by omega) (fun q56bbbb e56bbbb => ?_))⟩
              refine ⟨_, (zWi (by omega)), ?_⟩
              refine And.intro (zDX hD 0 rfl) ⟨_, sn_V_say.up (by decide), ?_⟩
              refine ⟨_, _, ((q56bbbb + 48) : Int), rfl, hD, (by first | exact p61bbbbbbbbhP2 | exact p61bbbbbbhP2 | exact p61bbbbhP2 | exact p61bbhP2 | exact p61hP2 | exact p38hP2), (by simp only [List.length_append, List.length_cons, List.length_nil]; have z := wWh_l (v := q19); omega), (by omega), ?_⟩
              intro I61bbbbo p61bbbbbbbbhP2 p61bbbbbbbbbfr
              refine ⟨_, _, ⟨(zW6i (by omega)), (zW6i (zRL rfl)), (by decide)⟩, (zdv (by omega) (fun q67bbbb e67bbbb => ?_))⟩
              refine ⟨_, _, ⟨(zW6i (zRL rfl)), (zW6i (zRL rfl)), (by decide)⟩, (zdv (by omega) (fun q74bbbb e74bbbb => ?_))⟩
              obtain rfl : q74bbbb = 1 := (by omega)
              refine ⟨_, _, ⟨zW6i (by omega), zW6i (zRL rfl)⟩, fun z48bbbbb c48bbbbb => ?_⟩
              refine And.intro c48bbbbb.2.2 ⟨fun h49bbbbb => ?_, fun h49bbbbb => ?_⟩
              · refine hQ _ ?_ (fun c j h0 h1 => ((p61bbbbbbbbbfr c j h0 h1).trans ((p61bbbbbbbfr c j h0 h1).trans ((p61bbbbbfr c j h0 h1).trans ((p61bbbfr c j h0 h1).trans ((p61bfr c j h0 h1).trans ((p38bfr c j h0 h1).trans ((p20bfr c j h0 h1).trans rfl))))))))
                · have ea : wAb v / 1000000 = q19 := by unfold wAb; split <;> omega
                  have eb : wAb v % 1000000 = q27 := by unfold wAb; split <;> omega
                  rw [ea, eb, ← List.append_assoc]
                  first
                  | (rw [wFr_n (by omega), List.append_nil]
                     exact p20hP2)
                  | (rw [wFr_y (by omega), wFd_e (k := 5) (r := q27) (d := q56 + 48) (m := q67) (by omega) (by show _ = _ / 100000 + 48; omega) (by show _ = _ % 100000; omega), wFd_e (k := 4) (r := q67) (d := q56b + 48) (m := q67b) (by omega) (by show _ = _ / 10000 + 48; omega) (by show _ = _ % 10000; omega), wFd_e (k := 3) (r := q67b) (d := q56bb + 48) (m := q67bb) (by omega) (by show _ = _ / 1000 + 48; omega) (by show _ = _ % 1000; omega), wFd_e (k := 2) (r := q67bb) (d := q56bbb + 48) (m := q67bbb) (by omega) (by show _ = _ / 100 + 48; omega) (by show _ = _ % 100; omega), wFd_e (k := 1) (r := q67bbb) (d := q56bbbb + 48) (m := q67bbbb) (by omega) (by show _ = _ / 10 + 48; omega) (by show _ = _ % 10; omega), wFd_e (k := 0) (r := q67bbbb) (d := q56bbbbb + 48) (m := q67bbbbb) (by omega) (by show _ = _ / 1 + 48; omega) (by show _ = _ % 1; omega), show wFd 0 q67bbbbb = [] from rfl]
                     simpa only [List.append_assoc, List.cons_append, List.nil_append] using p61bbbbbbbbbbhP2)
                  | (rw [wFr_y (by omega), wFd_e (k := 5) (r := q27) (d := q56 + 48) (m := q67) (by omega) (by show _ = _ / 100000 + 48; omega) (by show _ = _ % 100000; omega), wFd_e (k := 4) (r := q67) (d := q56b + 48) (m := q67b) (by omega) (by show _ = _ / 10000 + 48; omega) (by show _ = _ % 10000; omega), wFd_e (k := 3) (r := q67b) (d := q56bb + 48) (m := q67bb) (by omega) (by show _ = _ / 1000 + 48; omega) (by show _ = _ % 1000; omega), wFd_e (k := 2) (r := q67bb) (d := q56bbb + 48) (m := q67bbb) (by omega) (by show _ = _ / 100 + 48; omega) (by show _ = _ % 100; omega), wFd_e (k := 1) (r := q67bbb) (d := q56bbbb + 48) (m := q67bbbb) (by omega) (by show _ = _ / 10 + 48; omega) (by show _ = _ % 10; omega), wFd_n (by omega)]
                     simpa only [List.append_assoc, List.cons_append, List.nil_append] using p61bbbbbbbbhP2)
                  | (rw [wFr_y (by omega), wFd_e (k := 5) (r := q27) (d := q56 + 48) (m := q67) (by omega) (by show _ = _ / 100000 + 48; omega) (by show _ = _ % 100000; omega), wFd_e (k := 4) (r := q67) (d := q56b + 48) (m := q67b) (by omega) (by show _ = _ / 10000 + 48; omega) (by show _ = _ % 10000; omega), wFd_e (k := 3) (r := q67b) (d := q56bb + 48) (m := q67bb) (by omega) (by show _ = _ / 1000 + 48; omega) (by show _ = _ % 1000; omega), wFd_e (k := 2) (r := q67bb) (d := q56bbb + 48) (m := q67bbb) (by omega) (by show _ = _ / 100 + 48; omega) (by show _ = _ % 100; omega), wFd_n (by omega)]
                     simpa only [List.append_assoc, List.cons_append, List.nil_append] using p61bbbbbbhP2)
                  | (rw [wFr_y (by omega), wFd_e (k := 5) (r := q27) (d := q56 + 48) (m := q67) (by omega) (by show _ = _ / 100000 + 48; omega) (by show _ = _ % 100000; omega), wFd_e (k := 4) (r := q67) (d := q56b + 48) (m := q67b) (by omega) (by show _ = _ / 10000 + 48; omega) (by show _ = _ % 10000; omega), wFd_e (k := 3) (r := q67b) (d := q56bb + 48) (m := q67bb) (by omega) (by show _ = _ / 1000 + 48; omega) (by show _ = _ % 1000; omega), wFd_n (by omega)]
                     simpa only [List.append_assoc, List.cons_append, List.nil_append] using p61bbbbhP2)
                  | (rw [wFr_y (by omega), wFd_e (k := 5) (r := q27) (d := q56 + 48) (m := q67) (by omega) (by show _ = _ / 100000 + 48; omega) (by show _ = _ % 100000; omega), wFd_e (k := 4) (r := q67) (d := q56b + 48) (m := q67b) (by omega) (by show _ = _ / 10000 + 48; omega) (by show _ = _ % 10000; omega), wFd_n (by omega)]
                     simpa only [List.append_assoc, List.cons_append, List.nil_append] using p61bbhP2)
                  | (rw [wFr_y (by omega), wFd_e (k := 5) (r := q27) (d := q56 + 48) (m := q67) (by omega) (by show _ = _ / 100000 + 48; omega) (by show _ = _ % 100000; omega), wFd_n (by omega)]
                     simpa only [List.append_assoc, List.cons_append, List.nil_append] using p61hP2)
              · refine ⟨_, _, ⟨(zW6i (by omega)), (zW6i (zRL rfl)), (by decide)⟩, (zdv (by omega) (fun q56bbbbb e56bbbbb => ?_))⟩
                refine ⟨_, (zWi (by omega)), ?_⟩
                refine And.intro (zDX hD 0 rfl) ⟨_, sn_V_say.up (by decide), ?_⟩
                refine ⟨_, _, ((q56bbbbb + 48) : Int), rfl, hD, (by first | exact p61bbbbbbbbhP2 | exact p61bbbbbbhP2 | exact p61bbbbhP2 | exact p61bbhP2 | exact p61hP2 | exact p38hP2), (by simp only [List.length_append, List.length_cons, List.length_nil]; have z := wWh_l (v := q19); omega), (by omega), ?_⟩
                intro I61bbbbbo p61bbbbbbbbbbhP2 p61bbbbbbbbbbbfr
                refine ⟨_, _, ⟨(zW6i (by omega)), (zW6i (zRL rfl)), (by decide)⟩, (zdv (by omega) (fun q67bbbbb e67bbbbb => ?_))⟩
                refine ⟨_, _, ⟨(zW6i (zRL rfl)), (zW6i (zRL rfl)), (by decide)⟩, (zdv (by omega) (fun q74bbbbb e74bbbbb => ?_))⟩
                obtain rfl : q74bbbbb = 0 := (by omega)
                refine ⟨_, _, ⟨zW6i (by omega), zW6i (zRL rfl)⟩, fun z48bbbbbb c48bbbbbb => ?_⟩
                refine And.intro c48bbbbbb.2.2 ⟨fun h49bbbbbb => ?_, (fun h49bbbbbb => False.elim (by omega))⟩
                refine hQ _ ?_ (fun c j h0 h1 => ((p61bbbbbbbbbbbfr c j h0 h1).trans ((p61bbbbbbbbbfr c j h0 h1).trans ((p61bbbbbbbfr c j h0 h1).trans ((p61bbbbbfr c j h0 h1).trans ((p61bbbfr c j h0 h1).trans ((p61bfr c j h0 h1).trans ((p38bfr c j h0 h1).trans ((p20bfr c j h0 h1).trans rfl)))))))))
                · have ea : wAb v / 1000000 = q19 := by unfold wAb; split <;> omega
                  have eb : wAb v % 1000000 = q27 := by unfold wAb; split <;> omega
                  rw [ea, eb, ← List.append_assoc]
                  first
                  | (rw [wFr_n (by omega), List.append_nil]
                     exact p20hP2)
                  | (rw [wFr_y (by omega), wFd_e (k := 5) (r := q27) (d := q56 + 48) (m := q67) (by omega) (by show _ = _ / 100000 + 48; omega) (by show _ = _ % 100000; omega), wFd_e (k := 4) (r := q67) (d := q56b + 48) (m := q67b) (by omega) (by show _ = _ / 10000 + 48; omega) (by show _ = _ % 10000; omega), wFd_e (k := 3) (r := q67b) (d := q56bb + 48) (m := q67bb) (by omega) (by show _ = _ / 1000 + 48; omega) (by show _ = _ % 1000; omega), wFd_e (k := 2) (r := q67bb) (d := q56bbb + 48) (m := q67bbb) (by omega) (by show _ = _ / 100 + 48; omega) (by show _ = _ % 100; omega), wFd_e (k := 1) (r := q67bbb) (d := q56bbbb + 48) (m := q67bbbb) (by omega) (by show _ = _ / 10 + 48; omega) (by show _ = _ % 10; omega), wFd_e (k := 0) (r := q67bbbb) (d := q56bbbbb + 48) (m := q67bbbbb) (by omega) (by show _ = _ / 1 + 48; omega) (by show _ = _ % 1; omega), show wFd 0 q67bbbbb = [] from rfl]
                     simpa only [List.append_assoc, List.cons_append, List.nil_append] using p61bbbbbbbbbbhP2)
                  | (rw [wFr_y (by omega), wFd_e (k := 5) (r := q27) (d := q56 + 48) (m := q67) (by omega) (by show _ = _ / 100000 + 48; omega) (by show _ = _ % 100000; omega), wFd_e (k := 4) (r := q67) (d := q56b + 48) (m := q67b) (by omega) (by show _ = _ / 10000 + 48; omega) (by show _ = _ % 10000; omega), wFd_e (k := 3) (r := q67b) (d := q56bb + 48) (m := q67bb) (by omega) (by show _ = _ / 1000 + 48; omega) (by show _ = _ % 1000; omega), wFd_e (k := 2) (r := q67bb) (d := q56bbb + 48) (m := q67bbb) (by omega) (by show _ = _ / 100 + 48; omega) (by show _ = _ % 100; omega), wFd_e (k := 1) (r := q67bbb) (d := q56bbbb + 48) (m := q67bbbb) (by omega) (by show _ = _ / 10 + 48; omega) (by show _ = _ % 10; omega), wFd_n (by omega)]
                     simpa only [List.append_assoc, List.cons_append, List.nil_append] using p61bbbbbbbbhP2)
                  | (rw [wFr_y (by omega), wFd_e (k := 5) (r := q27) (d := q56 + 48) (m := q67) (by omega) (by show _ = _ / 100000 + 48; omega) (by show _ = _ % 100000; omega), wFd_e (k := 4) (r := q67) (d := q56b + 48) (m := q67b) (by omega) (by show _ = _ / 10000 + 48; omega) (by show _ = _ % 10000; omega), wFd_e (k := 3) (r := q67b) (d := q56bb + 48) (m := q67bb) (by omega) (by show _ = _ / 1000 + 48; omega) (by show _ = _ % 1000; omega), wFd_e (k := 2) (r := q67bb) (d := q56bbb + 48) (m := q67bbb) (by omega) (by show _ = _ / 100 + 48; omega) (by show _ = _ % 100; omega), wFd_n (by omega)]
                     simpa only [List.append_assoc, List.cons_append, List.nil_append] using p61bbbbbbhP2)
                  | (rw [wFr_y (by omega), wFd_e (k := 5) (r := q27) (d := q56 + 48) (m := q67) (by omega) (by show _ = _ / 100000 + 48; omega) (by show _ = _ % 100000; omega), wFd_e (k := 4) (r := q67) (d := q56b + 48) (m := q67b) (by omega) (by show _ = _ / 10000 + 48; omega) (by show _ = _ % 10000; omega), wFd_e (k := 3) (r := q67b) (d := q56bb + 48) (m := q67bb) (by omega) (by show _ = _ / 1000 + 48; omega) (by show _ = _ % 1000; omega), wFd_n (by omega)]
                     simpa only [List.append_assoc, List.cons_append, List.nil_append] using p61bbbbhP2)
                  | (rw [wFr_y (by omega), wFd_e (k := 5) (r := q27) (d := q56 + 48) (m := q67) (by omega) (by show _ = _ / 100000 + 48; omega) (by show _ = _ % 100000; omega), wFd_e (k := 4) (r := q67) (d := q56b + 48) (m := q67b) (by omega) (by show _ = _ / 10000 + 48; omega) (by show _ = _ % 10000; omega), wFd_n (by omega)]
                     simpa only [List.append_assoc, List.cons_append, List.nil_append] using p61bbhP2)
                  | (rw [wFr_y (by omega), wFd_e (k := 5) (r := q27) (d := q56 + 48) (m := q67) (by omega) (by show _ = _ / 100000 + 48; omega) (by show _ = _ % 100000; omega), wFd_n (by omega)]
                     simpa only [List.append_assoc, List.cons_append, List.nil_append] using p61hP2)
  · refine ⟨_, _, ⟨(zW6i (by omega)), (zW6i (zRL rfl)), (by decide)⟩, (zdv (by omega) (fun q19 e19 => ?_))⟩
    refine And.intro (zDX hD 0 rfl) ⟨_, sn_V_whl.up (by decide), ?_⟩
    refine ⟨k, w, (q19 : Int), rfl, hD, (by first | exact (zPO_fr hP (fun c j h => rfl)) | (clear hQ; grind [xu])), (by omega), (by omega), ?_⟩
    intro I20o p20hP2 p20bfr
    refine ⟨_, _, ⟨(zW6i (by omega)), (zW6i (zRL rfl)), (by decide)⟩, (zdv (by omega) (fun q27 e27 => ?_))⟩
    refine ⟨_, _, ⟨zW6i (by omega), zW6i (zRL rfl)⟩, fun z31 c31 => ?_⟩
    refine And.intro c31.2.2 ⟨fun h32 => ?_, fun h32 => ?_⟩
    · refine ⟨_, _, ⟨zW6i (by omega), zW6i (zRL rfl)⟩, fun z48 c48 => ?_⟩
      refine And.intro c48.2.2 ⟨fun h49 => ?_, (fun h49 => False.elim (by omega))⟩
      refine hQ _ ?_ (fun c j h0 h1 => ((p20bfr c j h0 h1).trans rfl))
      · have ea : wAb v / 1000000 = q19 := by unfold wAb; split <;> omega
        have eb : wAb v % 1000000 = q27 := by unfold wAb; split <;> omega
        rw [ea, eb, ← List.append_assoc]
        first
        | (rw [wFr_n (by omega), List.append_nil]
           exact p20hP2)
        | (rw [wFr_y (by omega), wFd_e (k := 5) (r := q27) (d := q56 + 48) (m := q67) (by omega) (by show _ = _ / 100000 + 48; omega) (by show _ = _ % 100000; omega), wFd_e (k := 4) (r := q67) (d := q56b + 48) (m := q67b) (by omega) (by show _ = _ / 10000 + 48; omega) (by show _ = _ % 10000; omega), wFd_e (k := 3) (r := q67b) (d := q56bb + 48) (m := q67bb) (by omega) (by show _ = _ / 1000 + 48; omega) (by show _ = _ % 1000; omega), wFd_e (k := 2) (r := q67bb) (d := q56bbb + 48) (m := q67bbb) (by omega) (by show _ = _ / 100 + 48; omega) (by show _ = _ % 100; omega), wFd_e (k := 1) (r := q67bbb) (d := q56bbbb + 48) (m := q67bbbb) (by omega) (by show _ = _ / 10 + 48; omega) (by show _ = _ % 10; omega), wFd_e (k := 0) (r := q67bbbb) (d := q56bbbbb + 48) (m := q67bbbbb) (by omega) (by show _ = _ / 1 + 48; omega) (by show _ = _ % 1; omega), show wFd 0 q67bbbbb = [] from rfl]
           simpa only [List.append_assoc, List.cons_append, List.nil_append] using p61bbbbbbbbbbhP2)
        | (rw [wFr_y (by omega), wFd_e (k := 5) (r := q27) (d := q56 + 48) (m := q67) (by omega) (by show _ = _ / 100000 + 48; omega) (by show _ = _ % 100000; omega), wFd_e (k := 4) (r := q67) (d := q56b + 48) (m := q67b) (by omega) (by show _ = _ / 10000 + 48; omega) (by show _ = _ % 10000; omega), wFd_e (k := 3) (r := q67b) (d := q56bb + 48) (m := q67bb) (by omega) (by show _ = _ / 1000 + 48; omega) (by show _ = _ % 1000; omega), wFd_e (k := 2) (r := q67bb) (d := q56bbb + 48) (m := q67bbb) (by omega) (by show _ = _ / 100 + 48; omega) (by show _ = _ % 100; omega), wFd_e (k := 1) (r := q67bbb) (d := q56bbbb + 48) (m := q67bbbb) (by omega) (by show _ = _ / 10 + 48; omega) (by show _ = _ % 10; omega), wFd_n (by omega)]
           simpa only [List.append_assoc, List.cons_append, List.nil_append] using p61bbbbbbbbhP2)
        | (rw [wFr_y (by omega), wFd_e (k := 5) (r := q27) (d := q56 + 48) (m := q67) (by omega) (by show _ = _ / 100000 + 48; omega) (by show _ = _ % 100000; omega), wFd_e (k := 4) (r := q67) (d := q56b + 48) (m := q67b) (by omega) (by show _ = _ / 10000 + 48; omega) (by show _ = _ % 10000; omega), wFd_e (k := 3) (r := q67b) (d := q56bb + 48) (m := q67bb) (by omega) (by show _ = _ / 1000 + 48; omega) (by show _ = _ % 1000; omega), wFd_e (k := 2) (r := q67bb) (d := q56bbb + 48) (m := q67bbb) (by omega) (by show _ = _ / 100 + 48; omega) (by show _ = _ % 100; omega), wFd_n (by omega)]
           simpa only [List.append_assoc, List.cons_append, List.nil_append] using p61bbbbbbhP2)
        | (rw [wFr_y (by omega), wFd_e (k := 5) (r := q27) (d := q56 + 48) (m := q67) (by omega) (by show _ = _ / 100000 + 48; omega) (by show _ = _ % 100000; omega), wFd_e (k := 4) (r := q67) (d := q56b + 48) (m := q67b) (by omega) (by show _ = _ / 10000 + 48; omega) (by show _ = _ % 10000; omega), wFd_e (k := 3) (r := q67b) (d := q56bb + 48) (m := q67bb) (by omega) (by show _ = _ / 1000 + 48; omega) (by show _ = _ % 1000; omega), wFd_n (by omega)]
           simpa only [List.append_assoc, List.cons_append, List.nil_append] using p61bbbbhP2)
        | (rw [wFr_y (by omega), wFd_e (k := 5) (r := q27) (d := q56 + 48) (m := q67) (by omega) (by show _ = _ / 100000 + 48; omega) (by show _ = _ % 100000; omega), wFd_e (k := 4) (r := q67) (d := q56b + 48) (m := q67b) (by omega) (by show _ = _ / 10000 + 48; omega) (by show _ = _ % 10000; omega), wFd_n (by omega)]
           simpa only [List.append_assoc, List.cons_append, List.nil_append] using p61bbhP2)
        | (rw [wFr_y (by omega), wFd_e (k := 5) (r := q27) (d := q56 + 48) (m := q67) (by omega) (by show _ = _ / 100000 + 48; omega) (by show _ = _ % 100000; omega), wFd_n (by omega)]
           simpa only [List.append_assoc, List.cons_append, List.nil_append] using p61hP2)
    · refine And.intro (zDX hD 0 rfl) ⟨_, sn_V_say.up (by decide), ?_⟩
      refine ⟨k, (w ++ wWh q19), (46 : Int), rfl, hD, p20hP2, (by simp only [List.length_append, List.length_cons, List.length_nil]; have z := wWh_l (v := q19); omega), (by omega), ?_⟩
      intro I38o p38hP2 p38bfr
      refine ⟨_, _, ⟨zW6i (by omega), zW6i (zRL rfl)⟩, fun z48 c48 => ?_⟩
      refine And.intro c48.2.2 ⟨(fun h49 => False.elim (by omega)), fun h49 => ?_⟩
      refine ⟨_, _, ⟨(zW6i (by omega)), (zW6i (zRL rfl)), (by decide)⟩, (zdv (by omega) (fun q56 e56 => ?_))⟩
      refine ⟨_, (zWi (by omega)), ?_⟩
      refine And.intro (zDX hD 0 rfl) ⟨_, sn_V_say.up (by decide), ?_⟩
      refine ⟨_, _, ((q56 + 48) : Int), rfl, hD, (by first | exact p61bbbbbbbbhP2 | exact p61bbbbbbhP2 | exact p61bbbbhP2 | exact p61bbhP2 | exact p61hP2 | exact p38hP2), (by simp only [List.length_append, List.length_cons, List.length_nil]; have z := wWh_l (v := q19); omega), (by omega), ?_⟩
      intro I61o p61hP2 p61bfr
      refine ⟨_, _, ⟨(zW6i (by omega)), (zW6i (zRL rfl)), (by decide)⟩, (zdv (by omega) (fun q67 e67 => ?_))⟩
      refine ⟨_, _, ⟨(zW6i (zRL rfl)), (zW6i (zRL rfl)), (by decide)⟩, (zdv (by omega) (fun q74 e74 => ?_))⟩
      obtain rfl : q74 = 10000 := (by omega)
      refine ⟨_, _, ⟨zW6i (by omega), zW6i (zRL rfl)⟩, fun z48b c48b => ?_⟩
      refine And.intro c48b.2.2 ⟨fun h49b => ?_, fun h49b => ?_⟩
      · refine hQ _ ?_ (fun c j h0 h1 => ((p61bfr c j h0 h1).trans ((p38bfr c j h0 h1).trans ((p20bfr c j h0 h1).trans rfl))))
        · have ea : wAb v / 1000000 = q19 := by unfold wAb; split <;> omega
          have eb : wAb v % 1000000 = q27 := by unfold wAb; split <;> omega
          rw [ea, eb, ← List.append_assoc]
          first
          | (rw [wFr_n (by omega), List.append_nil]
             exact p20hP2)
          | (rw [wFr_y (by omega), wFd_e (k := 5) (r := q27) (d := q56 + 48) (m := q67) (by omega) (by show _ = _ / 100000 + 48; omega) (by show _ = _ % 100000; omega), wFd_e (k := 4) (r := q67) (d := q56b + 48) (m := q67b) (by omega) (by show _ = _ / 10000 + 48; omega) (by show _ = _ % 10000; omega), wFd_e (k := 3) (r := q67b) (d := q56bb + 48) (m := q67bb) (by omega) (by show _ = _ / 1000 + 48; omega) (by show _ = _ % 1000; omega), wFd_e (k := 2) (r := q67bb) (d := q56bbb + 48) (m := q67bbb) (by omega) (by show _ = _ / 100 + 48; omega) (by show _ = _ % 100; omega), wFd_e (k := 1) (r := q67bbb) (d := q56bbbb + 48) (m := q67bbbb) (by omega) (by show _ = _ / 10 + 48; omega) (by show _ = _ % 10; omega), wFd_e (k := 0) (r := q67bbbb) (d := q56bbbbb + 48) (m := q67bbbbb) (by omega) (by show _ = _ / 1 + 48; omega) (by show _ = _ % 1; omega), show wFd 0 q67bbbbb = [] from rfl]
             simpa only [List.append_assoc, List.cons_append, List.nil_append] using p61bbbbbbbbbbhP2)
          | (rw [wFr_y (by omega), wFd_e (k := 5) (r := q27) (d := q56 + 48) (m := q67) (by omega) (by show _ = _ / 100000 + 48; omega) (by show _ = _ % 100000; omega), wFd_e (k := 4) (r := q67) (d := q56b + 48) (m := q67b) (by omega) (by show _ = _ / 10000 + 48; omega) (by show _ = _ % 10000; omega), wFd_e (k := 3) (r := q67b) (d := q56bb + 48) (m := q67bb) (by omega) (by show _ = _ / 1000 + 48; omega) (by show _ = _ % 1000; omega), wFd_e (k := 2) (r := q67bb) (d := q56bbb + 48) (m := q67bbb) (by omega) (by show _ = _ / 100 + 48; omega) (by show _ = _ % 100; omega), wFd_e (k := 1) (r := q67bbb) (d := q56bbbb + 48) (m := q67bbbb) (by omega) (by show _ = _ / 10 + 48; omega) (by show _ = _ % 10; omega), wFd_n (by omega)]
             simpa only [List.append_assoc, List.cons_append, List.nil_append] using p61bbbbbbbbhP2)
          | (rw [wFr_y (by omega), wFd_e (k := 5) (r := q27) (d := q56 + 48) (m := q67) (by omega) (by show _ = _ / 100000 + 48; omega) (by show _ = _ % 100000; omega), wFd_e (k := 4) (r := q67) (d := q56b + 48) (m := q67b) (by omega) (by show _ = _ / 10000 + 48; omega) (by show _ = _ % 10000; omega), wFd_e (k := 3) (r := q67b) (d := q56bb + 48) (m := q67bb) (by omega) (by show _ = _ / 1000 + 48; omega) (by show _ = _ % 1000; omega), wFd_e (k := 2) (r := q67bb) (d := q56bbb + 48) (m := q67bbb) (by omega) (by show _ = _ / 100 + 48; omega) (by show _ = _ % 100; omega), wFd_n (by omega)]
             simpa only [List.append_assoc, List.cons_append, List.nil_append] using p61bbbbbbhP2)
          | (rw [wFr_y (by omega), wFd_e (k := 5) (r := q27) (d := q56 + 48) (m := q67) (by omega) (by show _ = _ / 100000 + 48; omega) (by show _ = _ % 100000; omega), wFd_e (k := 4) (r := q67) (d := q56b + 48) (m := q67b) (by omega) (by show _ = _ / 10000 + 48; omega) (by show _ = _ % 10000; omega), wFd_e (k := 3) (r := q67b) (d := q56bb + 48) (m := q67bb) (by omega) (by show _ = _ / 1000 + 48; omega) (by show _ = _ % 1000; omega), wFd_n (by omega)]
             simpa only [List.append_assoc, List.cons_append, List.nil_append] using p61bbbbhP2)
          | (rw [wFr_y (by omega), wFd_e (k := 5) (r := q27) (d := q56 + 48) (m := q67) (by omega) (by show _ = _ / 100000 + 48; omega) (by show _ = _ % 100000; omega), wFd_e (k := 4) (r := q67) (d := q56b + 48) (m := q67b) (by omega) (by show _ = _ / 10000 + 48; omega) (by show _ = _ % 10000; omega), wFd_n (by omega)]
             simpa only [List.append_assoc, List.cons_append, List.nil_append] using p61bbhP2)
          | (rw [wFr_y (by omega), wFd_e (k := 5) (r := q27) (d := q56 + 48) (m := q67) (by omega) (by show _ = _ / 100000 + 48; omega) (by show _ = _ % 100000; omega), wFd_n (by omega)]
             simpa only [List.append_assoc, List.cons_append, List.nil_append] using p61hP2)
      · refine ⟨_, _, ⟨(zW6i (by omega)), (zW6i (zRL rfl)), (by decide)⟩, (zdv (by omega) (fun q56b e56b => ?_))⟩
        refine ⟨_, (zWi (by omega)), ?_⟩
        refine And.intro (zDX hD 0 rfl) ⟨_, sn_V_say.up (by decide), ?_⟩
        refine ⟨_, _, ((q56b + 48) : Int), rfl, hD, (by first | exact p61bbbbbbbbhP2 | exact p61bbbbbbhP2 | exact p61bbbbhP2 | exact p61bbhP2 | exact p61hP2 | exact p38hP2), (by simp only [List.length_append, List.length_cons, List.length_nil]; have z := wWh_l (v := q19); omega), (by omega), ?_⟩
        intro I61bo p61bbhP2 p61bbbfr
        refine ⟨_, _, ⟨(zW6i (by omega)), (zW6i (zRL rfl)), (by decide)⟩, (zdv (by omega) (fun q67b e67b => ?_))⟩
        refine ⟨_, _, ⟨(zW6i (zRL rfl)), (zW6i (zRL rfl)), (by decide)⟩, (zdv (by omega) (fun q74b e74b => ?_))⟩
        obtain rfl : q74b = 1000 := (by omega)
        refine ⟨_, _, ⟨zW6i (by omega), zW6i (zRL rfl)⟩, fun z48bb c48bb => ?_⟩
        refine And.intro c48bb.2.2 ⟨fun h49bb => ?_, fun h49bb => ?_⟩
        · refine hQ _ ?_ (fun c j h0 h1 => ((p61bbbfr c j h0 h1).trans ((p61bfr c j h0 h1).trans ((p38bfr c j h0 h1).trans ((p20bfr c j h0 h1).trans rfl)))))
          · have ea : wAb v / 1000000 = q19 := by unfold wAb; split <;> omega
            have eb : wAb v % 1000000 = q27 := by unfold wAb; split <;> omega
            rw [ea, eb, ← List.append_assoc]
            first
            | (rw [wFr_n (by omega), List.append_nil]
               exact p20hP2)
            | (rw [wFr_y (by omega), wFd_e (k := 5) (r := q27) (d := q56 + 48) (m := q67) (by omega) (by show _ = _ / 100000 + 48; omega) (by show _ = _ % 100000; omega), wFd_e (k := 4) (r := q67) (d := q56b + 48) (m := q67b) (by omega) (by show _ = _ / 10000 + 48; omega) (by show _ = _ % 10000; omega), wFd_e (k := 3) (r := q67b) (d := q56bb + 48) (m := q67bb) (by omega) (by show _ = _ / 1000 + 48; omega) (by show _ = _ % 1000; omega), wFd_e (k := 2) (r := q67bb) (d := q56bbb + 48) (m := q67bbb) (by omega) (by show _ = _ / 100 + 48; omega) (by show _ = _ % 100; omega), wFd_e (k := 1) (r := q67bbb) (d := q56bbbb + 48) (m := q67bbbb) (by omega) (by show _ = _ / 10 + 48; omega) (by show _ = _ % 10; omega), wFd_e (k := 0) (r := q67bbbb) (d := q56bbbbb + 48) (m := q67bbbbb) (by omega) (by show _ = _ / 1 + 48; omega) (by show _ = _ % 1; omega), show wFd 0 q67bbbbb = [] from rfl]
               simpa only [List.append_assoc, List.cons_append, List.nil_append] using p61bbbbbbbbbbhP2)
            | (rw [wFr_y (by omega), wFd_e (k := 5) (r := q27) (d := q56 + 48) (m := q67) (by omega) (by show _ = _ / 100000 + 48; omega) (by show _ = _ % 100000; omega), wFd_e (k := 4) (r := q67) (d := q56b + 48) (m := q67b) (by omega) (by show _ = _ / 10000 + 48; omega) (by show _ = _ % 10000; omega), wFd_e (k := 3) (r := q67b) (d := q56bb + 48) (m := q67bb) (by omega) (by show _ = _ / 1000 + 48; omega) (by show _ = _ % 1000; omega), wFd_e (k := 2) (r := q67bb) (d := q56bbb + 48) (m := q67bbb) (by omega) (by show _ = _ / 100 + 48; omega) (by show _ = _ % 100; omega), wFd_e (k := 1) (r := q67bbb) (d := q56bbbb + 48) (m := q67bbbb) (by omega) (by show _ = _ / 10 + 48; omega) (by show _ = _ % 10; omega), wFd_n (by omega)]
               simpa only [List.append_assoc, List.cons_append, List.nil_append] using p61bbbbbbbbhP2)
            | (rw [wFr_y (by omega), wFd_e (k := 5) (r := q27) (d := q56 + 48) (m := q67) (by omega) (by show _ = _ / 100000 + 48; omega) (by show _ = _ % 100000; omega), wFd_e (k := 4) (r := q67) (d := q56b + 48) (m := q67b) (by omega) (by show _ = _ / 10000 + 48; omega) (by show _ = _ % 10000; omega), wFd_e (k := 3) (r := q67b) (d := q56bb + 48) (m := q67bb) (by omega) (by show _ = _ / 1000 + 48; omega) (by show _ = _ % 1000; omega), wFd_e (k := 2) (r := q67bb) (d := q56bbb + 48) (m := q67bbb) (by omega) (by show _ = _ / 100 + 48; omega) (by show _ = _ % 100; omega), wFd_n (by omega)]
               simpa only [List.append_assoc, List.cons_append, List.nil_append] using p61bbbbbbhP2)
            | (rw [wFr_y (by omega), wFd_e (k := 5) (r := q27) (d := q56 + 48) (m := q67) (by omega) (by show _ = _ / 100000 + 48; omega) (by show _ = _ % 100000; omega), wFd_e (k := 4) (r := q67) (d := q56b + 48) (m := q67b) (by omega) (by show _ = _ / 10000 + 48; omega) (by show _ = _ % 10000; omega), wFd_e (k := 3) (r := q67b) (d := q56bb + 48) (m := q67bb) (by omega) (by show _ = _ / 1000 + 48; omega) (by show _ = _ % 1000; omega), wFd_n (by omega)]
               simpa only [List.append_assoc, List.cons_append, List.nil_append] using p61bbbbhP2)
            | (rw [wFr_y (by omega), wFd_e (k := 5) (r := q27) (d := q56 + 48) (m := q67) (by omega) (by show _ = _ / 100000 + 48; omega) (by show _ = _ % 100000; omega), wFd_e (k := 4) (r := q67) (d := q56b + 48) (m := q67b) (by omega) (by show _ = _ / 10000 + 48; omega) (by show _ = _ % 10000; omega), wFd_n (by omega)]
               simpa only [List.append_assoc, List.cons_append, List.nil_append] using p61bbhP2)
            | (rw [wFr_y (by omega), wFd_e (k := 5) (r := q27) (d := q56 + 48) (m := q67) (by omega) (by show _ = _ / 100000 + 48; omega) (by show _ = _ % 100000; omega), wFd_n (by omega)]
               simpa only [List.append_assoc, List.cons_append, List.nil_append] using p61hP2)
        · refine ⟨_, _, ⟨(zW6i (by omega)), (zW6i (zRL rfl)), (by decide)⟩, (zdv (by omega) (fun q56bb e56bb => ?_))⟩
          refine ⟨_, (zWi (by omega)), ?_⟩
          refine And.intro (zDX hD 0 rfl) ⟨_, sn_V_say.up (by decide), ?_⟩
          refine ⟨_, _, ((q56bb + 48) : Int), rfl, hD, (by first | exact p61bbbbbbbbhP2 | exact p61bbbbbbhP2 | exact p61bbbbhP2 | exact p61bbhP2 | exact p61hP2 | exact p38hP2), (by simp only [List.length_append, List.length_cons, List.length_nil]; have z := wWh_l (v := q19); omega), (by omega), ?_⟩
          intro I61bbo p61bbbbhP2 p61bbbbbfr
          refine ⟨_, _, ⟨(zW6i (by omega)), (zW6i (zRL rfl)), (by decide)⟩, (zdv (by omega) (fun q67bb e67bb => ?_))⟩
          refine ⟨_, _, ⟨(zW6i (zRL rfl)), (zW6i (zRL rfl)), (by decide)⟩, (zdv (by omega) (fun q74bb e74bb => ?_))⟩
          obtain rfl : q74bb = 100 := (by omega)
          refine ⟨_, _, ⟨zW6i (by omega), zW6i (zRL rfl)⟩, fun z48bbb c48bbb => ?_⟩
          refine And.intro c48bbb.2.2 ⟨fun h49bbb => ?_, fun h49bbb => ?_⟩
          · refine hQ _ ?_ (fun c j h0 h1 => ((p61bbbbbfr c j h0 h1).trans ((p61bbbfr c j h0 h1).trans ((p61bfr c j h0 h1).trans ((p38bfr c j h0 h1).trans ((p20bfr c j h0 h1).trans rfl))))))
            · have ea : wAb v / 1000000 = q19 := by unfold wAb; split <;> omega
              have eb : wAb v % 1000000 = q27 := by unfold wAb; split <;> omega
              rw [ea, eb, ← List.append_assoc]
              first
              | (rw [wFr_n (by omega), List.append_nil]
                 exact p20hP2)
              | (rw [wFr_y (by omega), wFd_e (k := 5) (r := q27) (d := q56 + 48) (m := q67) (by omega) (by show _ = _ / 100000 + 48; omega) (by show _ = _ % 100000; omega), wFd_e (k := 4) (r := q67) (d := q56b + 48) (m := q67b) (by omega) (by show _ = _ / 10000 + 48; omega) (by show _ = _ % 10000; omega), wFd_e (k := 3) (r := q67b) (d := q56bb + 48) (m := q67bb) (by omega) (by show _ = _ / 1000 + 48; omega) (by show _ = _ % 1000; omega), wFd_e (k := 2) (r := q67bb) (d := q56bbb + 48) (m := q67bbb) (by omega) (by show _ = _ / 100 + 48; omega) (by show _ = _ % 100; omega), wFd_e (k := 1) (r := q67bbb) (d := q56bbbb + 48) (m := q67bbbb) (by omega) (by show _ = _ / 10 + 48; omega) (by show _ = _ % 10; omega), wFd_e (k := 0) (r := q67bbbb) (d := q56bbbbb + 48) (m := q67bbbbb) (by omega) (by show _ = _ / 1 + 48; omega) (by show _ = _ % 1; omega), show wFd 0 q67bbbbb = [] from rfl]
                 simpa only [List.append_assoc, List.cons_append, List.nil_append] using p61bbbbbbbbbbhP2)
              | (rw [wFr_y (by omega), wFd_e (k := 5) (r := q27) (d := q56 + 48) (m := q67) (by omega) (by show _ = _ / 100000 + 48; omega) (by show _ = _ % 100000; omega), wFd_e (k := 4) (r := q67) (d := q56b + 48) (m := q67b) (by omega) (by show _ = _ / 10000 + 48; omega) (by show _ = _ % 10000; omega), wFd_e (k := 3) (r := q67b) (d := q56bb + 48) (m := q67bb) (by omega) (by show _ = _ / 1000 + 48; omega) (by show _ = _ % 1000; omega), wFd_e (k := 2) (r := q67bb) (d := q56bbb + 48) (m := q67bbb) (by omega) (by show _ = _ / 100 + 48; omega) (by show _ = _ % 100; omega), wFd_e (k := 1) (r := q67bbb) (d := q56bbbb + 48) (m := q67bbbb) (by omega) (by show _ = _ / 10 + 48; omega) (by show _ = _ % 10; omega), wFd_n (by omega)]
                 simpa only [List.append_assoc, List.cons_append, List.nil_append] using p61bbbbbbbbhP2)
              | (rw [wFr_y (by omega), wFd_e (k := 5) (r := q27) (d := q56 + 48) (m := q67) (by omega) (by show _ = _ / 100000 + 48; omega) (by show _ = _ % 100000; omega), wFd_e (k := 4) (r := q67) (d := q56b + 48) (m := q67b) (by omega) (by show _ = _ / 10000 + 48; omega) (by show _ = _ % 10000; omega), wFd_e (k := 3) (r := q67b) (d := q56bb + 48) (m := q67bb) (by omega) (by show _ = _ / 1000 + 48; omega) (by show _ = _ % 1000; omega), wFd_e (k := 2) (r := q67bb) (d := q56bbb + 48) (m := q67bbb) (by omega) (by show _ = _ / 100 + 48; omega) (by show _ = _ % 100; omega), wFd_n (by omega)]
                 simpa only [List.append_assoc, List.cons_append, List.nil_append] using p61bbbbbbhP2)
              | (rw [wFr_y (by omega), wFd_e (k := 5) (r := q27) (d := q56 + 48) (m := q67) (by omega) (by show _ = _ / 100000 + 48; omega) (by show _ = _ % 100000; omega), wFd_e (k := 4) (r := q67) (d := q56b + 48) (m := q67b) (by omega) (by show _ = _ / 10000 + 48; omega) (by show _ = _ % 10000; omega), wFd_e (k := 3) (r := q67b) (d := q56bb + 48) (m := q67bb) (by omega) (by show _ = _ / 1000 + 48; omega) (by show _ = _ % 1000; omega), wFd_n (by omega)]
                 simpa only [List.append_assoc, List.cons_append, List.nil_append] using p61bbbbhP2)
              | (rw [wFr_y (by omega), wFd_e (k := 5) (r := q27) (d := q56 + 48) (m := q67) (by omega) (by show _ = _ / 100000 + 48; omega) (by show _ = _ % 100000; omega), wFd_e (k := 4) (r := q67) (d := q56b + 48) (m := q67b) (by omega) (by show _ = _ / 10000 + 48; omega) (by show _ = _ % 10000; omega), wFd_n (by omega)]
                 simpa only [List.append_assoc, List.cons_append, List.nil_append] using p61bbhP2)
              | (rw [wFr_y (by omega), wFd_e (k := 5) (r := q27) (d := q56 + 48) (m := q67) (by omega) (by show _ = _ / 100000 + 48; omega) (by show _ = _ % 100000; omega), wFd_n (by omega)]
                 simpa only [List.append_assoc, List.cons_append, List.nil_append] using p61hP2)
          · refine ⟨_, _, ⟨(zW6i (by omega)), (zW6i (zRL rfl)), (by decide)⟩, (zdv (by omega) (fun q56bbb e56bbb => ?_))⟩
            refine ⟨_, (zWi (by omega)), ?_⟩
            refine And.intro (zDX hD 0 rfl) ⟨_, sn_V_say.up (by decide), ?_⟩
            refine ⟨_, _, ((q56bbb + 48) : Int), rfl, hD, (by first | exact p61bbbbbbbbhP2 | exact p61bbbbbbhP2 | exact p61bbbbhP2 | exact p61bbhP2 | exact p61hP2 | exact p38hP2), (by simp only [List.length_append, List.length_cons, List.length_nil]; have z := wWh_l (v := q19); omega), (by omega), ?_⟩
            intro I61bbbo p61bbbbbbhP2 p61bbbbbbbfr
            refine ⟨_, _, ⟨(zW6i (by omega)), (zW6i (zRL rfl)), (by decide)⟩, (zdv (by omega) (fun q67bbb e67bbb => ?_))⟩
            refine ⟨_, _, ⟨(zW6i (zRL rfl)), (zW6i (zRL rfl)), (by decide)⟩, (zdv (by omega) (fun q74bbb e74bbb => ?_))⟩
            obtain rfl : q74bbb = 10 := (by omega)
            refine ⟨_, _, ⟨zW6i (by omega), zW6i (zRL rfl)⟩, fun z48bbbb c48bbbb => ?_⟩
            refine And.intro c48bbbb.2.2 ⟨fun h49bbbb => ?_, fun h49bbbb => ?_⟩
            · refine hQ _ ?_ (fun c j h0 h1 => ((p61bbbbbbbfr c j h0 h1).trans ((p61bbbbbfr c j h0 h1).trans ((p61bbbfr c j h0 h1).trans ((p61bfr c j h0 h1).trans ((p38bfr c j h0 h1).trans ((p20bfr c j h0 h1).trans rfl)))))))
              · have ea : wAb v / 1000000 = q19 := by unfold wAb; split <;> omega
                have eb : wAb v % 1000000 = q27 := by unfold wAb; split <;> omega
                rw [ea, eb, ← List.append_assoc]
                first
                | (rw [wFr_n (by omega), List.append_nil]
                   exact p20hP2)
                | (rw [wFr_y (by omega), wFd_e (k := 5) (r := q27) (d := q56 + 48) (m := q67) (by omega) (by show _ = _ / 100000 + 48; omega) (by show _ = _ % 100000; omega), wFd_e (k := 4) (r := q67) (d := q56b + 48) (m := q67b) (by omega) (by show _ = _ / 10000 + 48; omega) (by show _ = _ % 10000; omega), wFd_e (k := 3) (r := q67b) (d := q56bb + 48) (m := q67bb) (by omega) (by show _ = _ / 1000 + 48; omega) (by show _ = _ % 1000; omega), wFd_e (k := 2) (r := q67bb) (d := q56bbb + 48) (m := q67bbb) (by omega) (by show _ = _ / 100 + 48; omega) (by show _ = _ % 100; omega), wFd_e (k := 1) (r := q67bbb) (d := q56bbbb + 48) (m := q67bbbb) (by omega) (by show _ = _ / 10 + 48; omega) (by show _ = _ % 10; omega), wFd_e (k := 0) (r := q67bbbb) (d := q56bbbbb + 48) (m := q67bbbbb) (by omega) (by show _ = _ / 1 + 48; omega) (by show _ = _ % 1; omega), show wFd 0 q67bbbbb = [] from rfl]
                   simpa only [List.append_assoc, List.cons_append, List.nil_append] using p61bbbbbbbbbbhP2)
                | (rw [wFr_y (by omega), wFd_e (k := 5) (r := q27) (d := q56 + 48) (m := q67) (by omega) (by show _ = _ / 100000 + 48; omega) (by show _ = _ % 100000; omega), wFd_e (k := 4) (r := q67) (d := q56b + 48) (m := q67b) (by omega) (by show _ = _ / 10000 + 48; omega) (by show _ = _ % 10000; omega), wFd_e (k := 3) (r := q67b) (d := q56bb + 48) (m := q67bb) (by omega) (by show _ = _ / 1000 + 48; omega) (by show _ = _ % 1000; omega), wFd_e (k := 2) (r := q67bb) (d := q56bbb + 48) (m := q67bbb) (by omega) (by show _ = _ / 100 + 48; omega) (by show _ = _ % 100; omega), wFd_e (k := 1) (r := q67bbb) (d := q56bbbb + 48) (m := q67bbbb) (by omega) (by show _ = _ / 10 + 48; omega) (by show _ = _ % 10; omega), wFd_n (by omega)]
                   simpa only [List.append_assoc, List.cons_append, List.nil_append] using p61bbbbbbbbhP2)
                | (rw [wFr_y (by omega), wFd_e (k := 5) (r := q27) (d := q56 + 48) (m := q67) (by omega) (by show _ = _ / 100000 + 48; omega) (by show _ = _ % 100000; omega), wFd_e (k := 4) (r := q67) (d := q56b + 48) (m := q67b) (by omega) (by show _ = _ / 10000 + 48; omega) (by show _ = _ % 10000; omega), wFd_e (k := 3) (r := q67b) (d := q56bb + 48) (m := q67bb) (by omega) (by show _ = _ / 1000 + 48; omega) (by show _ = _ % 1000; omega), wFd_e (k := 2) (r := q67bb) (d := q56bbb + 48) (m := q67bbb) (by omega) (by show _ = _ / 100 + 48; omega) (by show _ = _ % 100; omega), wFd_n (by omega)]
                   simpa only [List.append_assoc, List.cons_append, List.nil_append] using p61bbbbbbhP2)
                | (rw [wFr_y (by omega), wFd_e (k := 5) (r := q27) (d := q56 + 48) (m := q67) (by omega) (by show _ = _ / 100000 + 48; omega) (by show _ = _ % 100000; omega), wFd_e (k := 4) (r := q67) (d := q56b + 48) (m := q67b) (by omega) (by show _ = _ / 10000 + 48; omega) (by show _ = _ % 10000; omega), wFd_e (k := 3) (r := q67b) (d := q56bb + 48) (m := q67bb) (by omega) (by show _ = _ / 1000 + 48; omega) (by show _ = _ % 1000; omega), wFd_n (by omega)]
                   simpa only [List.append_assoc, List.cons_append, List.nil_append] using p61bbbbhP2)
                | (rw [wFr_y (by omega), wFd_e (k := 5) (r := q27) (d := q56 + 48) (m := q67) (by omega) (by show _ = _ / 100000 + 48; omega) (by show _ = _ % 100000; omega), wFd_e (k := 4) (r := q67) (d := q56b + 48) (m := q67b) (by omega) (by show _ = _ / 10000 + 48; omega) (by show _ = _ % 10000; omega), wFd_n (by omega)]
                   simpa only [List.append_assoc, List.cons_append, List.nil_append] using p61bbhP2)
                | (rw [wFr_y (by omega), wFd_e (k := 5) (r := q27) (d := q56 + 48) (m := q67) (by omega) (by show _ = _ / 100000 + 48; omega) (by show _ = _ % 100000; omega), wFd_n (by omega)]
                   simpa only [List.append_assoc, List.cons_append, List.nil_append] using p61hP2)
            · refine ⟨_, _, ⟨(zW6i (by omega)), (zW6i (zRL rfl)), (by decide)⟩, (zdv (by omega) (fun q56bbbb e56bbbb => ?_))⟩
              refine ⟨_, (zWi (by omega)), ?_⟩
              refine And.intro (zDX hD 0 rfl) ⟨_, sn_V_say.up (by decide), ?_⟩
              refine ⟨_, _, ((q56bbbb + 48) : Int), rfl, hD, (by first | exact p61bbbbbbbbhP2 | exact p61bbbbbbhP2 | exact p61bbbbhP2 | exact p61bbhP2 | exact p61hP2 | exact p38hP2), (by simp only [List.length_append, List.length_cons, List.length_nil]; have z := wWh_l (v := q19); omega), (by omega), ?_⟩
              intro I61bbbbo p61bbbbbbbbhP2 p61bbbbbbbbbfr
              refine ⟨_, _, ⟨(zW6i (by omega)), (zW6i (zRL rfl)), (by decide)⟩, (zdv (by omega) (fun q67bbbb e67bbbb => ?_))⟩
              refine ⟨_, _, ⟨(zW6i (zRL rfl)), (zW6i (zRL rfl)), (by decide)⟩, (zdv (by omega) (fun q74bbbb e74bbbb => ?_))⟩
              obtain rfl : q74bbbb = 1 := (by omega)
              refine ⟨_, _, ⟨zW6i (by omega), zW6i (zRL rfl)⟩, fun z48bbbbb c48bbbbb => ?_⟩
              refine And.intro c48bbbbb.2.2 ⟨fun h49bbbbb => ?_, fun h49bbbbb => ?_⟩
              · refine hQ _ ?_ (fun c j h0 h1 => ((p61bbbbbbbbbfr c j h0 h1).trans ((p61bbbbbbbfr c j h0 h1).trans ((p61bbbbbfr c j h0 h1).trans ((p61bbbfr c j h0 h1).trans ((p61bfr c j h0 h1).trans ((p38bfr c j h0 h1).trans ((p20bfr c j h0 h1).trans rfl))))))))
                · have ea : wAb v / 1000000 = q19 := by unfold wAb; split <;> omega
                  have eb : wAb v % 1000000 = q27 := by unfold wAb; split <;> omega
                  rw [ea, eb, ← List.append_assoc]
                  first
                  | (rw [wFr_n (by omega), List.append_nil]
                     exact p20hP2)
                  | (rw [wFr_y (by omega), wFd_e (k := 5) (r := q27) (d := q56 + 48) (m := q67) (by omega) (by show _ = _ / 100000 + 48; omega) (by show _ = _ % 100000; omega), wFd_e (k := 4) (r := q67) (d := q56b + 48) (m := q67b) (by omega) (by show _ = _ / 10000 + 48; omega) (by show _ = _ % 10000; omega), wFd_e (k := 3) (r := q67b) (d := q56bb + 48) (m := q67bb) (by omega) (by show _ = _ / 1000 + 48; omega) (by show _ = _ % 1000; omega), wFd_e (k := 2) (r := q67bb) (d := q56bbb + 48) (m := q67bbb) (by omega) (by show _ = _ / 100 + 48; omega) (by show _ = _ % 100; omega), wFd_e (k := 1) (r := q67bbb) (d := q56bbbb + 48) (m := q67bbbb) (by omega) (by show _ = _ / 10 + 48; omega) (by show _ = _ % 10; omega), wFd_e (k := 0) (r := q67bbbb) (d := q56bbbbb + 48) (m := q67bbbbb) (by omega) (by show _ = _ / 1 + 48; omega) (by show _ = _ % 1; omega), show wFd 0 q67bbbbb = [] from rfl]
                     simpa only [List.append_assoc, List.cons_append, List.nil_append] using p61bbbbbbbbbbhP2)
                  | (rw [wFr_y (by omega), wFd_e (k := 5) (r := q27) (d := q56 + 48) (m := q67) (by omega) (by show _ = _ / 100000 + 48; omega) (by show _ = _ % 100000; omega), wFd_e (k := 4) (r := q67) (d := q56b + 48) (m := q67b) (by omega) (by show _ = _ / 10000 + 48; omega) (by show _ = _ % 10000; omega), wFd_e (k := 3) (r := q67b) (d := q56bb + 48) (m := q67bb) (by omega) (by show _ = _ / 1000 + 48; omega) (by show _ = _ % 1000; omega), wFd_e (k := 2) (r := q67bb) (d := q56bbb + 48) (m := q67bbb) (by omega) (by show _ = _ / 100 + 48; omega) (by show _ = _ % 100; omega), wFd_e (k := 1) (r := q67bbb) (d := q56bbbb + 48) (m := q67bbbb) (by omega) (by show _ = _ / 10 + 48; omega) (by show _ = _ % 10; omega), wFd_n (by omega)]
                     simpa only [List.append_assoc, List.cons_append, List.nil_append] using p61bbbbbbbbhP2)
                  | (rw [wFr_y (by omega), wFd_e (k := 5) (r := q27) (d := q56 + 48) (m := q67) (by omega) (by show _ = _ / 100000 + 48; omega) (by show _ = _ % 100000; omega), wFd_e (k := 4) (r := q67) (d := q56b + 48) (m := q67b) (by omega) (by show _ = _ / 10000 + 48; omega) (by show _ = _ % 10000; omega), wFd_e (k := 3) (r := q67b) (d := q56bb + 48) (m := q67bb) (by omega) (by show _ = _ / 1000 + 48; omega) (by show _ = _ % 1000; omega), wFd_e (k := 2) (r := q67bb) (d := q56bbb + 48) (m := q67bbb) (by omega) (by show _ = _ / 100 + 48; omega) (by show _ = _ % 100; omega), wFd_n (by omega)]
                     simpa only [List.append_assoc, List.cons_append, List.nil_append] using p61bbbbbbhP2)
                  | (rw [wFr_y (by omega), wFd_e (k := 5) (r := q27) (d := q56 + 48) (m := q67) (by omega) (by show _ = _ / 100000 + 48; omega) (by show _ = _ % 100000; omega), wFd_e (k := 4) (r := q67) (d := q56b + 48) (m := q67b) (by omega) (by show _ = _ / 10000 + 48; omega) (by show _ = _ % 10000; omega), wFd_e (k := 3) (r := q67b) (d := q56bb + 48) (m := q67bb) (by omega) (by show _ = _ / 1000 + 48; omega) (by show _ = _ % 1000; omega), wFd_n (by omega)]
                     simpa only [List.append_assoc, List.cons_append, List.nil_append] using p61bbbbhP2)
                  | (rw [wFr_y (by omega), wFd_e (k := 5) (r := q27) (d := q56 + 48) (m := q67) (by omega) (by show _ = _ / 100000 + 48; omega) (by show _ = _ % 100000; omega), wFd_e (k := 4) (r := q67) (d := q56b + 48) (m := q67b) (by omega) (by show _ = _ / 10000 + 48; omega) (by show _ = _ % 10000; omega), wFd_n (by omega)]
                     simpa only [List.append_assoc, List.cons_append, List.nil_append] using p61bbhP2)
                  | (rw [wFr_y (by omega), wFd_e (k := 5) (r := q27) (d := q56 + 48) (m := q67) (by omega) (by show _ = _ / 100000 + 48; omega) (by show _ = _ % 100000; omega), wFd_n (by omega)]
                     simpa only [List.append_assoc, List.cons_append, List.nil_append] using p61hP2)
              · refine ⟨_, _, ⟨(zW6i (by omega)), (zW6i (zRL rfl)), (by decide)⟩, (zdv (by omega) (fun q56bbbbb e56bbbbb => ?_))⟩
                refine ⟨_, (zWi (by omega)), ?_⟩
                refine And.intro (zDX hD 0 rfl) ⟨_, sn_V_say.up (by decide), ?_⟩
                refine ⟨_, _, ((q56bbbbb + 48) : Int), rfl, hD, (by first | exact p61bbbbbbbbhP2 | exact p61bbbbbbhP2 | exact p61bbbbhP2 | exact p61bbhP2 | exact p61hP2 | exact p38hP2), (by simp only [List.length_append, List.length_cons, List.length_nil]; have z := wWh_l (v := q19); omega), (by omega), ?_⟩
                intro I61bbbbbo p61bbbbbbbbbbhP2 p61bbbbbbbbbbbfr
                refine ⟨_, _, ⟨(zW6i (by omega)), (zW6i (zRL rfl)), (by decide)⟩, (zdv (by omega) (fun q67bbbbb e67bbbbb => ?_))⟩
                refine ⟨_, _, ⟨(zW6i (zRL rfl)), (zW6i (zRL rfl)), (by decide)⟩, (zdv (by omega) (fun q74bbbbb e74bbbbb => ?_))⟩
                obtain rfl : q74bbbbb = 0 := (by omega)
                refine ⟨_, _, ⟨zW6i (by omega), zW6i (zRL rfl)⟩, fun z48bbbbbb c48bbbbbb => ?_⟩
                refine And.intro c48bbbbbb.2.2 ⟨fun h49bbbbbb => ?_, (fun h49bbbbbb => False.elim (by omega))⟩
                refine hQ _ ?_ (fun c j h0 h1 => ((p61bbbbbbbbbbbfr c j h0 h1).trans ((p61bbbbbbbbbfr c j h0 h1).trans ((p61bbbbbbbfr c j h0 h1).trans ((p61bbbbbfr c j h0 h1).trans ((p61bbbfr c j h0 h1).trans ((p61bfr c j h0 h1).trans ((p38bfr c j h0 h1).trans ((p20bfr c j h0 h1).trans rfl)))))))))
                · have ea : wAb v / 1000000 = q19 := by unfold wAb; split <;> omega
                  have eb : wAb v % 1000000 = q27 := by unfold wAb; split <;> omega
                  rw [ea, eb, ← List.append_assoc]
                  first
                  | (rw [wFr_n (by omega), List.append_nil]
                     exact p20hP2)
                  | (rw [wFr_y (by omega), wFd_e (k := 5) (r := q27) (d := q56 + 48) (m := q67) (by omega) (by show _ = _ / 100000 + 48; omega) (by show _ = _ % 100000; omega), wFd_e (k := 4) (r := q67) (d := q56b + 48) (m := q67b) (by omega) (by show _ = _ / 10000 + 48; omega) (by show _ = _ % 10000; omega), wFd_e (k := 3) (r := q67b) (d := q56bb + 48) (m := q67bb) (by omega) (by show _ = _ / 1000 + 48; omega) (by show _ = _ % 1000; omega), wFd_e (k := 2) (r := q67bb) (d := q56bbb + 48) (m := q67bbb) (by omega) (by show _ = _ / 100 + 48; omega) (by show _ = _ % 100; omega), wFd_e (k := 1) (r := q67bbb) (d := q56bbbb + 48) (m := q67bbbb) (by omega) (by show _ = _ / 10 + 48; omega) (by show _ = _ % 10; omega), wFd_e (k := 0) (r := q67bbbb) (d := q56bbbbb + 48) (m := q67bbbbb) (by omega) (by show _ = _ / 1 + 48; omega) (by show _ = _ % 1; omega), show wFd 0 q67bbbbb = [] from rfl]
                     simpa only [List.append_assoc, List.cons_append, List.nil_append] using p61bbbbbbbbbbhP2)
                  | (rw [wFr_y (by omega), wFd_e (k := 5) (r := q27) (d := q56 + 48) (m := q67) (by omega) (by show _ = _ / 100000 + 48; omega) (by show _ = _ % 100000; omega), wFd_e (k := 4) (r := q67) (d := q56b + 48) (m := q67b) (by omega) (by show _ = _ / 10000 + 48; omega) (by show _ = _ % 10000; omega), wFd_e (k := 3) (r := q67b) (d := q56bb + 48) (m := q67bb) (by omega) (by show _ = _ / 1000 + 48; omega) (by show _ = _ % 1000; omega), wFd_e (k := 2) (r := q67bb) (d := q56bbb + 48) (m := q67bbb) (by omega) (by show _ = _ / 100 + 48; omega) (by show _ = _ % 100; omega), wFd_e (k := 1) (r := q67bbb) (d := q56bbbb + 48) (m := q67bbbb) (by omega) (by show _ = _ / 10 + 48; omega) (by show _ = _ % 10; omega), wFd_n (by omega)]
                     simpa only [List.append_assoc, List.cons_append, List.nil_append] using p61bbbbbbbbhP2)
                  | (rw [wFr_y (by omega), wFd_e (k := 5) (r := q27) (d := q56 + 48) (m := q67) (by omega) (by show _ = _ / 100000 + 48; omega) (by show _ = _ % 100000; omega), wFd_e (k := 4) (r := q67) (d := q56b + 48) (m := q67b) (by omega) (by show _ = _ / 10000 + 48; omega) (by show _ = _ % 10000; omega), wFd_e (k := 3) (r := q67b) (d := q56bb + 48) (m := q67bb) (by omega) (by show _ = _ / 1000 + 48; omega) (by show _ = _ % 1000; omega), wFd_e (k := 2) (r := q67bb) (d := q56bbb + 48) (m := q67bbb) (by omega) (by show _ = _ / 100 + 48; omega) (by show _ = _ % 100; omega), wFd_n (by omega)]
                     simpa only [List.append_assoc, List.cons_append, List.nil_append] using p61bbbbbbhP2)
                  | (rw [wFr_y (by omega), wFd_e (k := 5) (r := q27) (d := q56 + 48) (m := q67) (by omega) (by show _ = _ / 100000 + 48; omega) (by show _ = _ % 100000; omega), wFd_e (k := 4) (r := q67) (d := q56b + 48) (m := q67b) (by omega) (by show _ = _ / 10000 + 48; omega) (by show _ = _ % 10000; omega), wFd_e (k := 3) (r := q67b) (d := q56bb + 48) (m := q67bb) (by omega) (by show _ = _ / 1000 + 48; omega) (by show _ = _ % 1000; omega), wFd_n (by omega)]
                     simpa only [List.append_assoc, List.cons_append, List.nil_append] using p61bbbbhP2)
                  | (rw [wFr_y (by omega), wFd_e (k := 5) (r := q27) (d := q56 + 48) (m := q67) (by omega) (by show _ = _ / 100000 + 48; omega) (by show _ = _ % 100000; omega), wFd_e (k := 4) (r := q67) (d := q56b + 48) (m := q67b) (by omega) (by show _ = _ / 10000 + 48; omega) (by show _ = _ % 10000; omega), wFd_n (by omega)]
                     simpa only [List.append_assoc, List.cons_append, List.nil_append] using p61bbhP2)
                  | (rw [wFr_y (by omega), wFd_e (k := 5) (r := q27) (d := q56 + 48) (m := q67) (by omega) (by show _ = _ / 100000 + 48; omega) (by show _ = _ % 100000; omega), wFd_n (by omega)]
                     simpa only [List.append_assoc, List.cons_append, List.nil_append] using p61hP2))
