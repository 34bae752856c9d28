/-! wf -/
def T_V_snm : ZT := fun args I L R S Q => ∃ (k : Nat) (w : List Int) (a : Int) (a_ : Nat), args = [zvr k, zvi a] ∧ (zDy zT20 zF20 k R S) ∧ (zPO k w I) ∧ (w.length + 6 ≤ 110000) ∧ (a = a_ ∧ a_ ≤ 8) ∧ ∀ (I' : ZI), (zPO k (w ++ wWd a_ (tsb a_).length) I') → (∀ c j : Nat, ¬ (c = k ∧ j = 26) → ¬ c = k + 12 → I' c j = I c j) → Q none I' L R S
set_option maxHeartbeats 3000000 in
theorem sn_V_snm : ZSnd 3 20 44 T_V_snm := ZSnd.of (zT20_44 2) (by
  rintro args I L R S Q hz ⟨k, w, a, a_, rfl, hD, hP, hl, ha, hQ⟩
  have hk40 := hD.1
  have hcb := tCd_b a_ (by omega)
  refine And.intro rfl ?_
  refine ⟨_, sn_V_nmo.up (by decide), ?_⟩
  refine ⟨(a : Int), a_, rfl, (by omega), ?_⟩
  intro v1o p1hv p1bhv2
  have g1 : 729 ≤ v1o := (by have z := wWd_v (a := a_) (by omega); rcases z with z | z | z | z <;> omega)
  refine ⟨_, _, ⟨(zW6i (by omega)), (zW6i (zRL rfl)), (by decide)⟩, (zdv (by omega) (fun q11 e11 => ?_))⟩
  refine ⟨_, _, ⟨zW6i (by omega), zW6i (zRL rfl)⟩, fun z15 c15 => ?_⟩
  refine And.intro c15.2.2 ⟨(fun h16 => False.elim (by omega)), fun h16 => ?_⟩
  refine ⟨_, _, ⟨(zW6i (by omega)), (zW6i (zRL rfl)), (by decide)⟩, (zdv (by omega) (fun q11b e11b => ?_))⟩
  refine ⟨_, _, ⟨zW6i (by omega), zW6i (zRL rfl)⟩, fun z15b c15b => ?_⟩
  refine And.intro c15b.2.2 ⟨(fun h16b => False.elim (by omega)), fun h16b => ?_⟩
  refine ⟨_, _, ⟨(zW6i (by omega)), (zW6i (zRL rfl)), (by decide)⟩, (zdv (by omega) (fun q11bb e11bb => ?_))⟩
  refine ⟨_, _, ⟨zW6i (by omega), zW6i (zRL rfl)⟩, fun z15bb c15bb => ?_⟩
  refine And.intro c15bb.2.2 ⟨fun h16bb => ?_, fun h16bb => ?_⟩
  · refine ⟨_, _, ⟨zW6i (zRL rfl), zW6i (zRL rfl)⟩, fun z33 c33 => ?_⟩
    refine And.intro c33.2.2 ⟨(fun h34 => False.elim (by omega)), fun h34 => ?_⟩
    refine ⟨_, _, ⟨(zW6i (by omega)), (zW6i (zRL rfl)), (by decide)⟩, (zdv (by omega) (fun q41 e41 => ?_))⟩
    refine ⟨_, _, ⟨(zW6i (by omega)), (zW6i (zRL rfl)), (by decide)⟩, (zdv (by omega) (fun q45 e45 => ?_))⟩
    refine ⟨_, (zWi (by omega)), ?_⟩
    refine And.intro (zDX hD 0 rfl) ⟨_, sn_V_say.up (by decide), ?_⟩
    refine ⟨_, _, ((q45 + 96) : Int), rfl, hD, (by first | exact p50bbbbbbbbhP2 | exact p50bbbbbbhP2 | exact p50bbbbhP2 | exact p50bbhP2 | exact p50hP2 | exact hP), (by first | omega | (simp only [List.length_append, List.length_cons, List.length_nil]; omega)), (by omega), ?_⟩
    intro I50o p50hP2 p50bfr
    refine ⟨_, _, ⟨(zW6i (zRL rfl)), (zW6i (zRL rfl)), (by decide)⟩, (zdv (by omega) (fun q58 e58 => ?_))⟩
    obtain rfl : q58 = 27 := (by omega)
    refine ⟨_, _, ⟨zW6i (zRL rfl), zW6i (zRL rfl)⟩, fun z33b c33b => ?_⟩
    refine And.intro c33b.2.2 ⟨(fun h34b => False.elim (by omega)), fun h34b => ?_⟩
    refine ⟨_, _, ⟨(zW6i (by omega)), (zW6i (zRL rfl)), (by decide)⟩, (zdv (by omega) (fun q41b e41b => ?_))⟩
    refine ⟨_, _, ⟨(zW6i (by omega)), (zW6i (zRL rfl)), (by decide)⟩, (zdv (by omega) (fun q45b e45b => ?_))⟩
    refine ⟨_, (zWi (by omega)), ?_⟩
    refine And.intro (zDX hD 0 rfl) ⟨_, sn_V_say.up (by decide), ?_⟩
    refine ⟨_, _, ((q45b + 96) : Int), rfl, hD, (by first | exact p50bbbbbbbbhP2 | exact p50bbbbbbhP2 | exact p50bbbbhP2 | exact p50bbhP2 | exact p50hP2 | exact hP), (by first | omega | (simp only [List.length_append, List.length_cons, List.length_nil]; omega)), (by omega), ?_⟩
    intro I50bo p50bbhP2 p50bbbfr
    refine ⟨_, _, ⟨(zW6i (zRL rfl)), (zW6i (zRL rfl)), (by decide)⟩, (zdv (by omega) (fun q58b e58b => ?_))⟩
    obtain rfl : q58b = 1 := (by omega)
    refine ⟨_, _, ⟨zW6i (zRL rfl), zW6i (zRL rfl)⟩, fun z33bb c33bb => ?_⟩
    refine And.intro c33bb.2.2 ⟨(fun h34bb => False.elim (by omega)), fun h34bb => ?_⟩
    refine ⟨_, _, ⟨(zW6i (by omega)), (zW6i (zRL rfl)), (by decide)⟩, (zdv (by omega) (fun q41bb e41bb => ?_))⟩
    refine ⟨_, _, ⟨(zW6i (by omega)), (zW6i (zRL rfl)), (by decide)⟩, (zdv (by omega) (fun q45bb e45bb => ?_))⟩
    refine ⟨_, (zWi (by omega)), ?_⟩
    refine And.intro (zDX hD 0 rfl) ⟨_, sn_V_say.up (by decide), ?_⟩
    refine ⟨_, _, ((q45bb + 96) : Int), rfl, hD, (by first | exact p50bbbbbbbbhP2 | exact p50bbbbbbhP2 | exact p50bbbbhP2 | exact p50bbhP2 | exact p50hP2 | exact hP), (by first | omega | (simp only [List.length_append, List.length_cons, List.length_nil]; omega)), (by omega), ?_⟩
    intro I50bbo p50bbbbhP2 p50bbbbbfr
    refine ⟨_, _, ⟨(zW6i (zRL rfl)), (zW6i (zRL rfl)), (by decide)⟩, (zdv (by omega) (fun q58bb e58bb => ?_))⟩
    obtain rfl : q58bb = 0 := (by omega)
    refine ⟨_, _, ⟨zW6i (zRL rfl), zW6i (zRL rfl)⟩, fun z33bbb c33bbb => ?_⟩
    refine And.intro c33bbb.2.2 ⟨fun h34bbb => ?_, (fun h34bbb => False.elim (by omega))⟩
    refine hQ _ ?_ (fun c j h0 h1 => ((p50bbbbbfr c j h0 h1).trans ((p50bbbfr c j h0 h1).trans ((p50bfr c j h0 h1).trans rfl))))
    · have hn := wWd_v (a := a_) (by omega)
      rcases hn with z | z | z | z
      · first
        | (rw [z.2.2, ← (show q45 + 96 = tCd a_ / 729 % 27 + 96 from by first | (rw [e45, e41, p1hv]; done) | omega), ← (show q45b + 96 = tCd a_ / 27 % 27 + 96 from by first | (rw [e45b, e41b, p1hv]; done) | omega), ← (show q45bb + 96 = tCd a_ / 1 % 27 + 96 from by first | (rw [e45bb, e41bb, p1hv]; done) | omega)]
           simpa only [List.append_assoc, List.nil_append, List.append_nil, List.cons_append] using p50bbbbhP2)
        | (exfalso; omega)
      · first
        | (rw [z.2.2, ← (show q45 + 96 = tCd a_ / 19683 % 27 + 96 from by first | (rw [e45, e41, p1hv]; done) | omega), ← (show q45b + 96 = tCd a_ / 729 % 27 + 96 from by first | (rw [e45b, e41b, p1hv]; done) | omega), ← (show q45bb + 96 = tCd a_ / 27 % 27 + 96 from by first | (rw [e45bb, e41bb, p1hv]; done) | omega), ← (show q45bbb + 96 = tCd a_ / 1 % 27 + 96 from by first | (rw [e45bbb, e41bbb, p1hv]; done) | omega)]
           simpa only [List.append_assoc, List.nil_append, List.append_nil, List.cons_append] using p50bbbbbbhP2)
        | (exfalso; omega)
      · first
        | (rw [z.2.2, ← (show q45 + 96 = tCd a_ / 531441 % 27 + 96 from by first | (rw [e45, e41, p1hv]; done) | omega), ← (show q45b + 96 = tCd a_ / 19683 % 27 + 96 from by first | (rw [e45b, e41b, p1hv]; done) | omega), ← (show q45bb + 96 = tCd a_ / 729 % 27 + 96 from by first | (rw [e45bb, e41bb, p1hv]; done) | omega), ← (show q45bbb + 96 = tCd a_ / 27 % 27 + 96 from by first | (rw [e45bbb, e41bbb, p1hv]; done) | omega), ← (show q45bbbb + 96 = tCd a_ / 1 % 27 + 96 from by first | (rw [e45bbbb, e41bbbb, p1hv]; done) | omega)]
           simpa only [List.append_assoc, List.nil_append, List.append_nil, List.cons_append] using p50bbbbbbbbhP2)
        | (exfalso; omega)
      · first
        | (rw [z.2.2, ← (show q45 + 96 = tCd a_ / 14348907 % 27 + 96 from by first | (rw [e45, e41, p1hv]; done) | omega), ← (show q45b + 96 = tCd a_ / 531441 % 27 + 96 from by first | (rw [e45b, e41b, p1hv]; done) | omega), ← (show q45bb + 96 = tCd a_ / 19683 % 27 + 96 from by first | (rw [e45bb, e41bb, p1hv]; done) | omega), ← (show q45bbb + 96 = tCd a_ / 729 % 27 + 96 from by first | (rw [e45bbb, e41bbb, p1hv]; done) | omega), ← (show q45bbbb + 96 = tCd a_ / 27 % 27 + 96 from by first | (rw [e45bbbb, e41bbbb, p1hv]; done) | omega), ← (show q45bbbbb + 96 = tCd a_ / 1 % 27 + 96 from by first | (rw [e45bbbbb, e41bbbbb, p1hv]; done) | omega)]
           simpa only [List.append_assoc, List.nil_append, List.append_nil, List.cons_append] using p50bbbbbbbbbbhP2)
        | (exfalso; omega)
  · refine ⟨_, _, ⟨(zW6i (by omega)), (zW6i (zRL rfl)), (by decide)⟩, (zdv (by omega) (fun q11bbb e11bbb => ?_))⟩
    refine ⟨_, _, ⟨zW6i (by omega), zW6i (zRL rfl)⟩, fun z15bbb c15bbb => ?_⟩
    refine And.intro c15bbb.2.2 ⟨fun h16bbb => ?_, fun h16bbb => ?_⟩
    · refine ⟨_, _, ⟨zW6i (zRL rfl), zW6i (zRL rfl)⟩, fun z33 c33 => ?_⟩
      refine And.intro c33.2.2 ⟨(fun h34 => False.elim (by omega)), fun h34 => ?_⟩
      refine ⟨_, _, ⟨(zW6i (by omega)), (zW6i (zRL rfl)), (by decide)⟩, (zdv (by omega) (fun q41 e41 => ?_))⟩
      refine ⟨_, _, ⟨(zW6i (by omega)), (zW6i (zRL rfl)), (by decide)⟩, (zdv (by omega) (fun q45 e45 => ?_))⟩
      refine ⟨_, (zWi (by omega)), ?_⟩
      refine And.intro (zDX hD 0 rfl) ⟨_, sn_V_say.up (by decide), ?_⟩
      refine ⟨_, _, ((q45 + 96) : Int), rfl, hD, (by first | exact p50bbbbbbbbhP2 | exact p50bbbbbbhP2 | exact p50bbbbhP2 | exact p50bbhP2 | exact p50hP2 | exact hP), (by first | omega | (simp only [List.length_append, List.length_cons, List.length_nil]; omega)), (by omega), ?_⟩
      intro I50o p50hP2 p50bfr
      refine ⟨_, _, ⟨(zW6i (zRL rfl)), (zW6i (zRL rfl)), (by decide)⟩, (zdv (by omega) (fun q58 e58 => ?_))⟩
      obtain rfl : q58 = 729 := (by omega)
      refine ⟨_, _, ⟨zW6i (zRL rfl), zW6i (zRL rfl)⟩, fun z33b c33b => ?_⟩
      refine And.intro c33b.2.2 ⟨(fun h34b => False.elim (by omega)), fun h34b => ?_⟩
      refine ⟨_, _, ⟨(zW6i (by omega)), (zW6i (zRL rfl)), (by decide)⟩, (zdv (by omega) (fun q41b e41b => ?_))⟩
      refine ⟨_, _, ⟨(zW6i (by omega)), (zW6i (zRL rfl)), (by decide)⟩, (zdv (by omega) (fun q45b e45b => ?_))⟩
      refine ⟨_, (zWi (by omega)), ?_⟩
      refine And.intro (zDX hD 0 rfl) ⟨_, sn_V_say.up (by decide), ?_⟩
      refine ⟨_, _, ((q45b + 96) : Int), rfl, hD, (by first | exact p50bbbbbbbbhP2 | exact p50bbbbbbhP2 | exact p50bbbbhP2 | exact p50bbhP2 | exact p50hP2 | exact hP), (by first | omega | (simp only [List.length_append, List.length_cons, List.length_nil]; omega)), (by omega), ?_⟩
      intro I50bo p50bbhP2 p50bbbfr
      refine ⟨_, _, ⟨(zW6i (zRL rfl)), (zW6i (zRL rfl)), (by decide)⟩, (zdv (by omega) (fun q58b e58b => ?_))⟩
      obtain rfl : q58b = 27 := (by omega)
      refine ⟨_, _, ⟨zW6i (zRL rfl), zW6i (zRL rfl)⟩, fun z33bb c33bb => ?_⟩
      refine And.intro c33bb.2.2 ⟨(fun h34bb => False.elim (by omega)), fun h34bb => ?_⟩
      refine ⟨_, _, ⟨(zW6i (by omega)), (zW6i (zRL rfl)), (by decide)⟩, (zdv (by omega) (fun q41bb e41bb => ?_))⟩
      refine ⟨_, _, ⟨(zW6i (by omega)), (zW6i (zRL rfl)), (by decide)⟩, (zdv (by omega) (fun q45bb e45bb => ?_))⟩
      refine ⟨_, (zWi (by omega)), ?_⟩
      refine And.intro (zDX hD 0 rfl) ⟨_, sn_V_say.up (by decide), ?_⟩
      refine ⟨_, _, ((q45bb + 96) : Int), rfl, hD, (by first | exact p50bbbbbbbbhP2 | exact p50bbbbbbhP2 | exact p50bbbbhP2 | exact p50bbhP2 | exact p50hP2 | exact hP), (by first | omega | (simp only [List.length_append, List.length_cons, List.length_nil]; omega)), (by omega), ?_⟩
      intro I50bbo p50bbbbhP2 p50bbbbbfr
      refine ⟨_, _, ⟨(zW6i (zRL rfl)), (zW6i (zRL rfl)), (by decide)⟩, (zdv (by omega) (fun q58bb e58bb => ?_))⟩
      obtain rfl : q58bb = 1 := (by omega)
      refine ⟨_, _, ⟨zW6i (zRL rfl), zW6i (zRL rfl)⟩, fun z33bbb c33bbb => ?_⟩
      refine And.intro c33bbb.2.2 ⟨(fun h34bbb => False.elim (by omega)), fun h34bbb => ?_⟩
      refine ⟨_, _, ⟨(zW6i (by omega)), (zW6i (zRL rfl)), (by decide)⟩, (zdv (by omega) (fun q41bbb e41bbb => ?_))⟩
      refine ⟨_, _, ⟨(zW6i (by omega)), (zW6i (zRL rfl)), (by decide)⟩, (zdv (by omega) (fun q45bbb e45bbb => ?_))⟩
      refine ⟨_, (zWi (by omega)), ?_⟩
      refine And.intro (zDX hD 0 rfl) ⟨_, sn_V_say.up (by decide), ?_⟩
      refine ⟨_, _, ((q45bbb + 96) : Int), rfl, hD, (by first | exact p50bbbbbbbbhP2 | exact p50bbbbbbhP2 | exact p50bbbbhP2 | exact p50bbhP2 | exact p50hP2 | exact hP), (by first | omega | (simp only [List.length_append, List.length_cons, List.length_nil]; omega)), (by omega), ?_⟩
      intro I50bbbo p50bbbbbbhP2 p50bbbbbbbfr
      refine ⟨_, _, ⟨(zW6i (zRL rfl)), (zW6i (zRL rfl)), (by decide)⟩, (zdv (by omega) (fun q58bbb e58bbb => ?_))⟩
      obtain rfl : q58bbb = 0 := (by omega)
      refine ⟨_, _, ⟨zW6i (zRL rfl), zW6i (zRL rfl)⟩, fun z33bbbb c33bbbb => ?_⟩
      refine And.intro c33bbbb.2.2 ⟨fun h34bbbb => ?_, (fun h34bbbb => False.elim (by omega))⟩
      refine hQ _ ?_ (fun c j h0 h1 => ((p50bbbbbbbfr c j h0 h1).trans ((p50bbbbbfr c j h0 h1).trans ((p50bbbfr c j h0 h1).trans ((p50bfr c j h0 h1).trans rfl)))))
      · have hn := wWd_v (a := a_) (by omega)
        rcases hn with z | z | z | z
        · first
          | (rw [z.2.2, ← (show q45 + 96 = tCd a_ / 729 % 27 + 96 from by first | (rw [e45, e41, p1hv]; done) | omega), ← (show q45b + 96 = tCd a_ / 27 % 27 + 96 from by first | (rw [e45b, e41b, p1hv]; done) | omega), ← (show q45bb + 96 = tCd a_ / 1 % 27 + 96 from by first | (rw [e45bb, e41bb, p1hv]; done) | omega)]
             simpa only [List.append_assoc, List.nil_append, List.append_nil, List.cons_append] using p50bbbbhP2)
          | (exfalso; omega)
        · first
          | (rw [z.2.2, ← (show q45 + 96 = tCd a_ / 19683 % 27 + 96 from by first | (rw [e45, e41, p1hv]; done) | omega), ← (show q45b + 96 = tCd a_ / 729 % 27 + 96 from by first | (rw [e45b, e41b, p1hv]; done) | omega), ← (show q45bb + 96 = tCd a_ / 27 % 27 + 96 from by first | (rw [e45bb, e41bb, p1hv]; done) | omega), ← (show q45bbb + 96 = tCd a_ / 1 % 27 + 96 from by first | (rw [e45bbb, e41bbb, p1hv]; done) | omega)]
             simpa only [List.append_assoc, List.nil_append, List.append_nil, List.cons_append] using p50bbbbbbhP2)
          | (exfalso; omega)
        · first
          | (rw [z.2.2, ← (show q45 + 96 = tCd a_ / 531441 % 27 + 96 from by first | (rw [e45, e41, p1hv]; done) | omega), ← (show q45b + 96 = tCd a_ / 19683 % 27 + 96 from by first | (rw [e45b, e41b, p1hv]; done) | omega), ← (show q45bb + 96 = tCd a_ / 729 % 27 + 96 from by first | (rw [e45bb, e41bb, p1hv]; done) | omega), ← (show q45bbb + 96 = tCd a_ / 27 % 27 + 96 from by first | (rw [e45bbb, e41bbb, p1hv]; done) | omega), ← (show q45bbbb + 96 = tCd a_ / 1 % 27 + 96 from by first | (rw [e45bbbb, e41bbbb, p1hv]; done) | omega)]
             simpa only [List.append_assoc, List.nil_append, List.append_nil, List.cons_append] using p50bbbbbbbbhP2)
          | (exfalso; omega)
        · first
          | (rw [z.2.2, ← (show q45 + 96 = tCd a_ / 14348907 % 27 + 96 from by first | (rw [e45, e41, p1hv]; done) | omega), ← (show q45b + 96 = tCd a_ / 531441 % 27 + 96 from by first | (rw [e45b, e41b, p1hv]; done) | omega), ← (show q45bb + 96 = tCd a_ / 19683 % 27 + 96 from by first | (rw [e45bb, e41bb, p1hv]; done) | omega), ← (show q45bbb + 96 = tCd a_ / 729 % 27 + 96 from by first | (rw [e45bbb, e41bbb, p1hv]; done) | omega), ← (show q45bbbb + 96 = tCd a_ / 27 % 27 + 96 from by first | (rw [e45bbbb, e41bbbb, p1hv]; done) | omega), ← (show q45bbbbb + 96 = tCd a_ / 1 % 27 + 96 from by first | (rw [e45bbbbb, e41bbbbb, p1hv]; done) | omega)]
             simpa only [List.append_assoc, List.nil_append, List.append_nil, List.cons_append] using p50bbbbbbbbbbhP2)
          | (exfalso; omega)
    · refine ⟨_, _, ⟨(zW6i (by omega)), (zW6i (zRL rfl)), (by decide)⟩, (zdv (by omega) (fun q11bbbb e11bbbb => ?_))⟩
      refine ⟨_, _, ⟨zW6i (by omega), zW6i (zRL rfl)⟩, fun z15bbbb c15bbbb => ?_⟩
      refine And.intro c15bbbb.2.2 ⟨fun h16bbbb => ?_, fun h16bbbb => ?_⟩
      · refine ⟨_, _, ⟨zW6i (zRL rfl), zW6i (zRL rfl)⟩, fun z33 c33 => ?_⟩
        refine And.intro c33.2.2 ⟨(fun h34 => False.elim (by omega)), fun h34 => ?_⟩
        refine ⟨_, _, ⟨(zW6i (by omega)), (zW6i (zRL rfl)), (by decide)⟩, (zdv (by omega) (fun q41 e41 => ?_))⟩
        refine ⟨_, _, ⟨(zW6i (by omega)), (zW6i (zRL rfl)), (by decide)⟩, (zdv (by omega) (fun q45 e45 => ?_))⟩
        refine ⟨_, (zWi (by omega)), ?_⟩
        refine And.intro (zDX hD 0 rfl) ⟨_, sn_V_say.up (by decide), ?_⟩
        refine ⟨_, _, ((q45 + 96) : Int), rfl, hD, (by first | exact p50bbbbbbbbhP2 | exact p50bbbbbbhP2 | exact p50bbbbhP2 | exact p50bbhP2 | exact p50hP2 | exact hP), (by first | omega | (simp only [List.length_append, List.length_cons, List.length_nil]; omega)), (by omega), ?_⟩
        intro I50o p50hP2 p50bfr
        refine ⟨_, _, ⟨(zW6i (zRL rfl)), (zW6i (zRL rfl)), (by decide)⟩, (zdv (by omega) (fun q58 e58 => ?_))⟩
        obtain rfl : q58 = 19683 := (by omega)
        refine ⟨_, _, ⟨zW6i (zRL rfl), zW6i (zRL rfl)⟩, fun z33b c33b => ?_⟩
        refine And.intro c33b.2.2 ⟨(fun h34b => False.elim (by omega)), fun h34b => ?_⟩
        refine ⟨_, _, ⟨(zW6i (by omega)), (zW6i (zRL rfl)), (by decide)⟩, (zdv (by omega) (fun q41b e41b => ?_))⟩
        refine ⟨_, _, ⟨(zW6i (by omega)), (zW6i (zRL rfl)), (by decide)⟩, (zdv (by omega) (fun q45b e45b => ?_))⟩
        refine ⟨_, (zWi (by omega)), ?_⟩
        refine And.intro (zDX hD 0 rfl) ⟨_, sn_V_say.up (by decide), ?_⟩
        refine ⟨_, _, ((q45b + 96) : Int), rfl, hD, (by first | exact p50bbbbbbbbhP2 | exact p50bbbbbbhP2 | exact p50bbbbhP2 | exact p50bbhP2 | exact p50hP2 | exact hP), (by first | omega | (simp only [List.length_append, List.length_cons, List.length_nil]; omega)), (by omega), ?_⟩
        intro I50bo p50bbhP2 p50bbbfr
        refine ⟨_, _, ⟨(zW6i (zRL rfl)), (zW6i (zRL rfl)), (by decide)⟩, (zdv (by omega) (fun q58b e58b => ?_))⟩
        obtain rfl : q58b = 729 := (by omega)
        refine ⟨_, _, ⟨zW6i (zRL rfl), zW6i (zRL rfl)⟩, fun z33bb c33bb => ?_⟩
        refine And.intro c33bb.2.2 ⟨(fun h34bb => False.elim (by omega)), fun h34bb => ?_⟩
        refine ⟨_, _, ⟨(zW6i (by omega)), (zW6i (zRL rfl)), (by decide)⟩, (zdv (by omega) (fun q41bb e41bb => ?_))⟩
        refine ⟨_, _, ⟨(zW6i (by omega)), (zW6i (zRL rfl)), (by decide)⟩, (zdv (by omega) (fun q45bb e45bb => ?_))⟩
        refine ⟨_, (zWi (by omega)), ?_⟩
        refine And.intro (zDX hD 0 rfl) ⟨_, sn_V_say.up (by decide), ?_⟩
        refine ⟨_, _, ((q45bb + 96) : Int), rfl, hD, (by first | exact p50bbbbbbbbhP2 | exact p50bbbbbbhP2 | exact p50bbbbhP2 | exact p50bbhP2 | exact p50hP2 | exact hP), (by first | omega | (simp only [List.length_append, List.length_cons, List.length_nil]; omega)), (by omega), ?_⟩
        intro I50bbo p50bbbbhP2 p50bbbbbfr
        refine ⟨_, _, ⟨(zW6i (zRL rfl)), (zW6i (zRL rfl)), (by decide)⟩, (zdv (by omega) (fun q58bb e58bb => ?_))⟩
        obtain rfl : q58bb = 27 := (by omega)
        refine ⟨_, _, ⟨zW6i (zRL rfl), zW6i (zRL rfl)⟩, fun z33bbb c33bbb => ?_⟩
        refine And.intro c33bbb.2.2 ⟨(fun h34bbb => False.elim (by omega)), fun h34bbb => ?_⟩
        refine ⟨_, _, ⟨(zW6i (by omega)), (zW6i (zRL rfl)), (by decide)⟩, (zdv (by omega) (fun q41bbb e41bbb => ?_))⟩
        refine ⟨_, _, ⟨(zW6i (by omega)), (zW6i (zRL rfl)), (by decide)⟩, (zdv (by omega) (fun q45bbb e45bbb => ?_))⟩
        refine ⟨_, (zWi (by omega)), ?_⟩
        refine And.intro (zDX hD 0 rfl) ⟨_, sn_V_say.up (by decide), ?_⟩
        refine ⟨_, _, ((q45bbb + 96) : Int), rfl, hD, (by first | exact p50bbbbbbbbhP2 | exact p50bbbbbbhP2 | exact p50bbbbhP2 | exact p50bbhP2 | exact p50hP2 | exact hP), (by first | omega | (simp only [List.length_append, List.length_cons, List.length_nil]; omega)), (by omega), ?_⟩
        intro I50bbbo p50bbbbbbhP2 p50bbbbbbbfr
        refine ⟨_, _, ⟨(zW6i (zRL rfl)), (zW6i (zRL rfl)), (by decide)⟩, (zdv (by omega) (fun q58bbb e58bbb => ?_))⟩
        obtain rfl : q58bbb = 1 := (by omega)
        refine ⟨_, _, ⟨zW6i (zRL rfl), zW6i (zRL rfl)⟩, fun z33bbbb c33bbbb => ?_⟩
        refine And.intro c33bbbb.2.2 ⟨(fun h34bbbb => False.elim (by omega)), fun h34bbbb => ?_⟩
        refine ⟨_, _, ⟨(zW6i (by omega)), (zW6i (zRL rfl)), (by decide)⟩, (zdv (by omega) (fun q41bbbb e41bbbb => ?_))⟩
        refine ⟨_, _, ⟨(zW6i (by omega)), (zW6i (zRL rfl)), (by decide)⟩, (zdv (by omega) (fun q45bbbb e45bbbb => ?_))⟩
        refine ⟨_, (zWi (by omega)), ?_⟩
        refine And.intro (zDX hD 0 rfl) ⟨_, sn_V_say.up (by decide), ?_⟩
        refine ⟨_, _, ((q45bbbb + 96) : Int), rfl, hD, (by first | exact p50bbbbbbbbhP2 | exact p50bbbbbbhP2 | exact p50bbbbhP2 | exact p50bbhP2 | exact p50hP2 | exact hP), (by first | omega | (simp only [List.length_append, List.length_cons, List.length_nil]; omega)), (by omega), ?_⟩
        intro I50bbbbo p50bbbbbbbbhP2 p50bbbbbbbbbfr
        refine ⟨_, _, ⟨(zW6i (zRL rfl)), (zW6i (zRL rfl)), (by decide)⟩, (zdv (by omega) (fun q58bbbb e58bbbb => ?_))⟩
        obtain rfl : q58bbbb = 0 := (by omega)
        refine ⟨_, _, ⟨zW6i (zRL rfl), zW6i (zRL rfl)⟩, fun z33bbbbb c33bbbbb => ?_⟩
        refine And.intro c33bbbbb.2.2 ⟨fun h34bbbbb => ?_, (fun h34bbbbb => False.elim (by omega))⟩
        refine hQ _ ?_ (fun c j h0 h1 => ((p50bbbbbbbbbfr c j h0 h1).trans ((p50bbbbbbbfr c j h0 h1).trans ((p50bbbbbfr c j h0 h1).trans ((p50bbbfr c j h0 h1).trans ((p50bfr c j h0 h1).trans rfl))))))
        · have hn := wWd_v (a := a_) (by omega)
          rcases hn with z | z | z | z
          · first
            | (rw [z.2.2, ← (show q45 + 96 = tCd a_ / 729 % 27 + 96 from by first | (rw [e45, e41, p1hv]; done) | omega), ← (show q45b + 96 = tCd a_ / 27 % 27 + 96 from by first | (rw [e45b, e41b, p1hv]; done) | omega), ← (show q45bb + 96 = tCd a_ / 1 % 27 + 96 from by first | (rw [e45bb, e41bb, p1hv]; done) | omega)]
               simpa only [List.append_assoc, List.nil_append, List.append_nil, List.cons_append] using p50bbbbhP2)
            | (exfalso; omega)
          · first
            | (rw [z.2.2, ← (show q45 + 96 = tCd a_ / 19683 % 27 + 96 from by first | (rw [e45, e41, p1hv]; done) | omega), ← (show q45b + 96 = tCd a_ / 729 % 27 + 96 from by first | (rw [e45b, e41b, p1hv]; done) | omega), ← (show q45bb + 96 = tCd a_ / 27 % 27 + 96 from by first | (rw [e45bb, e41bb, p1hv]; done) | omega), ← (show q45bbb + 96 = tCd a_ / 1 % 27 + 96 from by first | (rw [e45bbb, e41bbb, p1hv]; done) | omega)]
               simpa only [List.append_assoc, List.nil_append, List.append_nil, List.cons_append] using p50bbbbbbhP2)
            | (exfalso; omega)
          · first
            | (rw [z.2.2, ← (show q45 + 96 = tCd a_ / 531441 % 27 + 96 from by first | (rw [e45, e41, p1hv]; done) | omega), ← (show q45b + 96 = tCd a_ / 19683 % 27 + 96 from by first | (rw [e45b, e41b, p1hv]; done) | omega), ← (show q45bb + 96 = tCd a_ / 729 % 27 + 96 from by first | (rw [e45bb, e41bb, p1hv]; done) | omega), ← (show q45bbb + 96 = tCd a_ / 27 % 27 + 96 from by first | (rw [e45bbb, e41bbb, p1hv]; done) | omega), ← (show q45bbbb + 96 = tCd a_ / 1 % 27 + 96 from by first | (rw [e45bbbb, e41bbbb, p1hv]; done) | omega)]
               simpa only [List.append_assoc, List.nil_append, List.append_nil, List.cons_append] using p50bbbbbbbbhP2)
            | (exfalso; omega)
          · first
            | (rw [z.2.2, ← (show q45 + 96 = tCd a_ / 14348907 % 27 + 96 from by first | (rw [e45, e41, p1hv]; done) | omega), ← (show q45b + 96 = tCd a_ / 531441 % 27 + 96 from by first | (rw [e45b, e41b, p1hv]; done) | omega), ← (show q45bb + 96 = tCd a_ / 19683 % 27 + 96 from by first | (rw [e45bb, e41bb, p1hv]; done) | omega), ← (show q45bbb + 96 = tCd a_ / 729 % 27 + 96 from by first | (rw [e45bbb, e41bbb, p1hv]; done) | omega), ← (show q45bbbb + 96 = tCd a_ / 27 % 27 + 96 from by first | (rw [e45bbbb, e41bbbb, p1hv]; done) | omega), ← (show q45bbbbb + 96 = tCd a_ / 1 % 27 + 96 from by first | (rw [e45bbbbb, e41bbbbb, p1hv]; done) | omega)]
               simpa only [List.append_assoc, List.nil_append, List.append_nil, List.cons_append] using p50bbbbbbbbbbhP2)
            | (exfalso; omega)
      · refine ⟨_, _, ⟨(zW6i (by omega)), (zW6i (zRL rfl)), (by decide)⟩, (zdv (by omega) (fun q11bbbbb e11bbbbb => ?_))⟩
        refine ⟨_, _, ⟨zW6i (by omega), zW6i (zRL rfl)⟩, fun z15bbbbb c15bbbbb => ?_⟩
        refine And.intro c15bbbbb.2.2 ⟨fun h16bbbbb => ?_, (fun h16bbbbb => False.elim (by omega))⟩
        refine ⟨_, _, ⟨zW6i (zRL rfl), zW6i (zRL rfl)⟩, fun z33 c33 => ?_⟩
        refine And.intro c33.2.2 ⟨(fun h34 => False.elim (by omega)), fun h34 => ?_⟩
        refine ⟨_, _, ⟨(zW6i (by omega)), (zW6i (zRL rfl)), (by decide)⟩, (zdv (by omega) (fun q41 e41 => ?_))⟩
        refine ⟨_, _, ⟨(zW6i (by omega)), (zW6i (zRL rfl)), (by decide)⟩, (zdv (by omega) (fun q45 e45 => ?_))⟩
        refine ⟨_, (zWi (by omega)), ?_⟩
        refine And.intro (zDX hD 0 rfl) ⟨_, sn_V_say.up (by decide), ?_⟩
        refine ⟨_, _, ((q45 + 96) : Int), rfl, hD, (by first | exact p50bbbbbbbbhP2 | exact p50bbbbbbhP2 | exact p50bbbbhP2 | exact p50bbhP2 | exact p50hP2 | exact hP), (by first | omega | (simp only [List.length_append, List.length_cons, List.length_nil]; omega)), (by omega), ?_⟩
        intro I50o p50hP2 p50bfr
        refine ⟨_, _, ⟨(zW6i (zRL rfl)), (zW6i (zRL rfl)), (by decide)⟩, (zdv (by omega) (fun q58 e58 => ?_))⟩
        obtain rfl : q58 = 531441 := (by omega)
        refine ⟨_, _, ⟨zW6i (zRL rfl), zW6i (zRL rfl)⟩, fun z33b c33b => ?_⟩
        refine And.intro c33b.2.2 ⟨(fun h34b => False.elim (by omega)), fun h34b => ?_⟩
        refine ⟨_, _, ⟨(zW6i (by omega)), (zW6i (zRL rfl)), (by decide)⟩, (zdv (by omega) (fun q41b e41b => ?_))⟩
        refine ⟨_, _, ⟨(zW6i (by omega)), (zW6i (zRL rfl)), (by decide)⟩, (zdv (by omega) (fun q45b e45b => ?_))⟩
        refine ⟨_, (zWi (by omega)), ?_⟩
        refine And.intro (zDX hD 0 rfl) ⟨_, sn_V_say.up (by decide), ?_⟩
        refine ⟨_, _, ((q45b + 96) : Int), rfl, hD, (by first | exact p50bbbbbbbbhP2 | exact p50bbbbbbhP2 | exact p50bbbbhP2 | exact p50bbhP2 | exact p50hP2 | exact hP), (by first | omega | (simp only [List.length_append, List.length_cons, List.length_nil]; omega)), (by omega), ?_⟩
        intro I50bo p50bbhP2 p50bbbfr
        refine ⟨_, _, ⟨(zW6i (zRL rfl)), (zW6i (zRL rfl)), (by decide)⟩, (zdv (by omega) (fun q58b e58b => ?_))⟩
        obtain rfl : q58b = 19683 := (by omega)
        refine ⟨_, _, ⟨zW6i (zRL rfl), zW6i (zRL rfl)⟩, fun z33bb c33bb => ?_⟩
        refine And.intro c33bb.2.2 ⟨(fun h34bb => False.elim (by omega)), fun h34bb => ?_⟩
        refine ⟨_, _, ⟨(zW6i (by omega)), (zW6i (zRL rfl)), (by decide)⟩, (zdv (by omega) (fun q41bb e41bb => ?_))⟩
        refine ⟨_, _, ⟨(zW6i (by omega)), (zW6i (zRL rfl)), (by decide)⟩, (zdv (by omega) (fun q45bb e45bb => ?_))⟩
        refine ⟨_, (zWi (by omega)), ?_⟩
        refine And.intro (zDX hD 0 rfl) ⟨_, sn_V_say.up (by decide), ?_⟩
        refine ⟨_, _, ((q45bb + 96) : Int), rfl, hD, (by first | exact p50bbbbbbbbhP2 | exact p50bbbbbbhP2 | exact p50bbbbhP2 | exact p50bbhP2 | exact p50hP2 | exact hP), (by first | omega | (simp only [List.length_append, List.length_cons, List.length_nil]; omega)), (by omega), ?_⟩
        intro I50bbo p50bbbbhP2 p50bbbbbfr
        refine ⟨_, _, ⟨(zW6i (zRL rfl)), (zW6i (zRL rfl)), (by decide)⟩, (zdv (by omega) (fun q58bb e58bb => ?_))⟩
        obtain rfl : q58bb = 729 := (by omega)
        refine ⟨_, _, ⟨zW6i (zRL rfl), zW6i (zRL rfl)⟩, fun z33bbb c33bbb => ?_⟩
        refine And.intro c33bbb.2.2 ⟨(fun h34bbb => False.elim (by omega)), fun h34bbb => ?_⟩
        refine ⟨_, _, ⟨(zW6i (by omega)), (zW6i (zRL rfl)), (by decide)⟩, (zdv (by omega) (fun q41bbb e41bbb => ?_))⟩
        refine ⟨_, _, ⟨(zW6i (by omega)), (zW6i (zRL rfl)), (by decide)⟩, (zdv (by omega) (fun q45bbb e45bbb => ?_))⟩
        refine ⟨_, (zWi (by omega)), ?_⟩
        refine And.intro (zDX hD 0 rfl) ⟨_, sn_V_say.up (by decide), ?_⟩
        refine ⟨_, _, ((q45bbb + 96) : Int), rfl, hD, (by first | exact p50bbbbbbbbhP2 | exact p50bbbbbbhP2 | exact p50bbbbhP2 | exact p50bbhP2 | exact p50hP2 | exact hP), (by first | omega | (simp only [List.length_append, List.length_cons, List.length_nil]; omega)), (by omega), ?_⟩
        intro I50bbbo p50bbbbbbhP2 p50bbbbbbbfr
        refine ⟨_, _, ⟨(zW6i (zRL rfl)), (zW6i (zRL rfl)), (by decide)⟩, (zdv (by omega) (fun q58bbb e58bbb => ?_))⟩
        obtain rfl : q58bbb = 27 := (by omega)
        refine ⟨_, _, ⟨zW6i (zRL rfl), zW6i (zRL rfl)⟩, fun z33bbbb c33bbbb => ?_⟩
        refine And.intro c33bbbb.2.2 ⟨(fun h34bbbb => False.elim (by omega)), fun h34bbbb => ?_⟩
        refine ⟨_, _, ⟨(zW6i (by omega)), (zW6i (zRL rfl)), (by decide)⟩, (zdv (by omega) (fun q41bbbb e41bbbb => ?_))⟩
        refine ⟨_, _, ⟨(zW6i (by omega)), (zW6i (zRL rfl)), (by decide)⟩, (zdv (by omega) (fun q45bbbb e45bbbb => ?_))⟩
        refine ⟨_, (zWi (by omega)), ?_⟩
        refine And.intro (zDX hD 0 rfl) ⟨_, sn_V_say.up (by decide), ?_⟩
        refine ⟨_, _, ((q45bbbb + 96) : Int), rfl, hD, (by first | exact p50bbbbbbbbhP2 | exact p50bbbbbbhP2 | exact p50bbbbhP2 | exact p50bbhP2 | exact p50hP2 | exact hP), (by first | omega | (simp only [List.length_append, List.length_cons, List.length_nil]; omega)), (by omega), ?_⟩
        intro I50bbbbo p50bbbbbbbbhP2 p50bbbbbbbbbfr
        refine ⟨_, _, ⟨(zW6i (zRL rfl)), (zW6i (zRL rfl)), (by decide)⟩, (zdv (by omega) (fun q58bbbb e58bbbb => ?_))⟩
        obtain rfl : q58bbbb = 1 := (by omega)
        refine ⟨_, _, ⟨zW6i (zRL rfl), zW6i (zRL rfl)⟩, fun z33bbbbb c33bbbbb => ?_⟩
        refine And.intro c33bbbbb.2.2 ⟨(fun h34bbbbb => False.elim (by omega)), fun h34bbbbb => ?_⟩
        refine ⟨_, _, ⟨(zW6i (by omega)), (zW6i (zRL rfl)), (by decide)⟩, (zdv (by omega) (fun q41bbbbb e41bbbbb => ?_))⟩
        refine ⟨_, _, ⟨(zW6i (by omega)), (zW6i (zRL rfl)), (by decide)⟩, (zdv (by omega) (fun q45bbbbb e45bbbbb => ?_))⟩
        refine ⟨_, (zWi (by omega)), ?_⟩
        refine And.intro (zDX hD 0 rfl) ⟨_, sn_V_say.up (by decide), ?_⟩
        refine ⟨_, _, ((q45bbbbb + 96) : Int), rfl, hD, (by first | exact p50bbbbbbbbhP2 | exact p50bbbbbbhP2 | exact p50bbbbhP2 | exact p50bbhP2 | exact p50hP2 | exact hP), (by first | omega | (simp only [List.length_append, List.length_cons, List.length_nil]; omega)), (by omega), ?_⟩
        intro I50bbbbbo p50bbbbbbbbbbhP2 p50bbbbbbbbbbbfr
        refine ⟨_, _, ⟨(zW6i (zRL rfl)), (zW6i (zRL rfl)), (by decide)⟩, (zdv (by omega) (fun q58bbbbb e58bbbbb => ?_))⟩
        obtain rfl : q58bbbbb = 0 := (by omega)
        refine ⟨_, _, ⟨zW6i (zRL rfl), zW6i (zRL rfl)⟩, fun z33bbbbbb c33bbbbbb => ?_⟩
        refine And.intro c33bbbbbb.2.2 ⟨fun h34bbbbbb => ?_, (fun h34bbbbbb => False.elim (by omega))⟩
        refine hQ _ ?_ (fun c j h0 h1 => ((p50bbbbbbbbbbbfr c j h0 h1).trans ((p50bbbbbbbbbfr c j h0 h1).trans ((p50bbbbbbbfr c j h0 h1).trans ((p50bbbbbfr c j h0 h1).trans ((p50bbbfr c j h0 h1).trans ((p50bfr c j h0 h1).trans rfl)))))))
        · have hn := wWd_v (a := a_) (by omega)
          rcases hn with z | z | z | z
          · first
            | (rw [z.2.2, ← (show q45 + 96 = tCd a_ / 729 % 27 + 96 from by first | (rw [e45, e41, p1hv]; done) | omega), ← (show q45b + 96 = tCd a_ / 27 % 27 + 96 from by first | (rw [e45b, e41b, p1hv]; done) | omega), ← (show q45bb + 96 = tCd a_ / 1 % 27 + 96 from by first | (rw [e45bb, e41bb, p1hv]; done) | omega)]
               simpa only [List.append_assoc, List.nil_append, List.append_nil, List.cons_append] using p50bbbbhP2)
            | (exfalso; omega)
          · first
            | (rw [z.2.2, ← (show q45 + 96 = tCd a_ / 19683 % 27 + 96 from by first | (rw [e45, e41, p1hv]; done) | omega), ← (show q45b + 96 = tCd a_ / 729 % 27 + 96 from by first | (rw [e45b, e41b, p1hv]; done) | omega), ← (show q45bb + 96 = tCd a_ / 27 % 27 + 96 from by first | (rw [e45bb, e41bb, p1hv]; done) | omega), ← (show q45bbb + 96 = tCd a_ / 1 % 27 + 96 from by first | (rw [e45bbb, e41bbb, p1hv]; done) | omega)]
               simpa only [List.append_assoc, List.nil_append, List.append_nil, List.cons_append] using p50bbbbbbhP2)
            | (exfalso; omega)
          · first
            | (rw [z.2.2, ← (show q45 + 96 = tCd a_ / 531441 % 27 + 96 from by first | (rw [e45, e41, p1hv]; done) | omega), ← (show q45b + 96 = tCd a_ / 19683 % 27 + 96 from by first | (rw [e45b, e41b, p1hv]; done) | omega), ← (show q45bb + 96 = tCd a_ / 729 % 27 + 96 from by first | (rw [e45bb, e41bb, p1hv]; done) | omega), ← (show q45bbb + 96 = tCd a_ / 27 % 27 + 96 from by first | (rw [e45bbb, e41bbb, p1hv]; done) | omega), ← (show q45bbbb + 96 = tCd a_ / 1 % 27 + 96 from by first | (rw [e45bbbb, e41bbbb, p1hv]; done) | omega)]
               simpa only [List.append_assoc, List.nil_append, List.append_nil, List.cons_append] using p50bbbbbbbbhP2)
            | (exfalso; omega)
          · first
            | (rw [z.2.2, ← (show q45 + 96 = tCd a_ / 14348907 % 27 + 96 from by first | (rw [e45, e41, p1hv]; done) | omega), ← (show q45b + 96 = tCd a_ / 531441 % 27 + 96 from by first | (rw [e45b, e41b, p1hv]; done) | omega), ← (show q45bb + 96 = tCd a_ / 19683 % 27 + 96 from by first | (rw [e45bb, e41bb, p1hv]; done) | omega), ← (show q45bbb + 96 = tCd a_ / 729 % 27 + 96 from by first | (rw [e45bbb, e41bbb, p1hv]; done) | omega), ← (show q45bbbb + 96 = tCd a_ / 27 % 27 + 96 from by first | (rw [e45bbbb, e41bbbb, p1hv]; done) | omega), ← (show q45bbbbb + 96 = tCd a_ / 1 % 27 + 96 from by first | (rw [e45bbbbb, e41bbbbb, p1hv]; done) | omega)]
               simpa only [List.append_assoc, List.nil_append, List.append_nil, List.cons_append] using p50bbbbbbbbbbhP2)
            | (exfalso; omega))
