/-! yl -/
def T_Y_say : ZT := fun args I L R S Q => ∃ (m : Int) (t : List Int) (u : Int), args = [zvr 165, zvi u] ∧ (zSh S) ∧ (zRs R) ∧ (zSy m t I) ∧ (t.length ≤ 2000) ∧ (0 ≤ m ∧ m ≤ 2147483647) ∧ (r32 u) ∧ ∀ (I' : ZI), (zSy m (t ++ [u]) I') → (∀ c j : Nat, ¬ (c = 165 ∧ j = 45) → ¬ (c = 165 ∧ j = 46) → I' c j = I c j) → Q none I' L R S
theorem sn_Y_say : ZSnd 1 21 64 T_Y_say := ZSnd.of (zT21_64 0) (by
  rintro args I L R S Q hz ⟨m, t, u, rfl, hS, hR, hsy, ht8, hmb, hu, hQ⟩
  obtain ⟨hs44, hs45, hs46⟩ := id hsy
  refine And.intro rfl ?_
  refine And.intro (zA_165 hS) (zrd (v := (t.length)) hs45 ?_)
  refine And.intro (zA_165 hS) (zrd (v := m) hs44 ?_)
  refine And.intro ⟨(by omega), (by omega)⟩ ⟨fun h8 => ?_, fun h8 => ?_⟩
  · refine And.intro (zA_165 hS) (zrd (v := (t.length)) hs45 ?_)
    refine And.intro (zA_165 hS) ⟨_, (zWi (by omega)), ?_⟩
    refine hQ _ ?_ (fun c j h0 h1 => (zxcj h0 rfl))
    · first
      | exact zSy_y hsy (by omega) (zxs (by decide) (zxs (by decide) hs44)) (by first | exact zxe | exact zxe.trans (by omega)) (zxs (by decide) zxe)
      | exact zSy_n hsy (by omega) (zxs (by decide) hs44) (by first | exact zxe | exact zxe.trans (by omega)) (zxs (by decide) rfl)
  · refine And.intro (zA_165 hS) ⟨_, (zWi (by omega)), ?_⟩
    refine And.intro (zA_165 hS) (zrd (v := (t.length)) hs45 ?_)
    refine And.intro (zA_165 hS) ⟨_, (zWi (by omega)), ?_⟩
    refine hQ _ ?_ (fun c j h0 h1 => (zxcj h0 (zxcj h1 rfl)))
    · first
      | exact zSy_y hsy (by omega) (zxs (by decide) (zxs (by decide) hs44)) (by first | exact zxe | exact zxe.trans (by omega)) (zxs (by decide) zxe)
      | exact zSy_n hsy (by omega) (zxs (by decide) hs44) (by first | exact zxe | exact zxe.trans (by omega)) (zxs (by decide) rfl))
def T_Y_sny : ZT := fun args I L R S Q => ∃ (m : Int) (t : List Int) (v : Int), args = [zvr 165, zvi v] ∧ (zSh S) ∧ (zRs R) ∧ (zSy m t I) ∧ (t.length ≤ 1900) ∧ (0 ≤ m ∧ m ≤ 2147483647) ∧ (0 ≤ v ∧ v ≤ 99999) ∧ ∀ (I' : ZI), (zSy m (t ++ dNu v) I') → (∀ c j : Nat, ¬ (c = 165 ∧ j = 45) → ¬ (c = 165 ∧ j = 46) → I' c j = I c j) → Q none I' L R S
theorem sn_Y_sny : ZSnd 2 21 66 T_Y_sny := ZSnd.of (zT21_66 1) (by
  rintro args I L R S Q hz ⟨m, t, v, rfl, hS, hR, hsy, ht8, hmb, hv, hQ⟩
  refine And.intro rfl ?_
  refine And.intro ⟨(by omega), (zRb rfl), (by decide)⟩ (zdv (by omega) (fun q4 e4 => ?_))
  refine And.intro ⟨(by omega), (zRb rfl)⟩ ⟨fun h7 => ?_, fun h7 => ?_⟩
  · refine And.intro (zRb rfl) (zbf rfl ?_)
    refine And.intro ⟨(by omega), (zRb rfl), (by decide)⟩ (zdv (by omega) (fun q27 e27 => ?_))
    refine And.intro ⟨(by omega), (zRb rfl), (by decide)⟩ (zdv (by omega) (fun q30 e30 => ?_))
    refine And.intro (zA_165 hS) ⟨_, sn_Y_say.up (by decide), ?_⟩
    refine ⟨_, _, ((48 + q30) : Int), rfl, hS, hR, (by first | exact p32bbbbbbbbbbbbhsy2 | exact p32bbbbbbbbbbbhsy2 | exact p32bbbbbbbbbbhsy2 | exact p32bbbbbbbbbhsy2 | exact p32bbbbbbbbhsy2 | exact p32bbbbbbbhsy2 | exact p32bbbbbbhsy2 | exact p32bbbbbhsy2 | exact p32bbbbhsy2 | exact p32bbbhsy2 | exact p32bbhsy2 | exact p32bhsy2 | exact p32hsy2 | exact hsy), (by first | omega | (simp only [List.length_append, List.length_cons, List.length_nil]; omega)), (by omega), (by omega), ?_⟩
    intro I32o p32hsy2 p32bfr
    refine And.intro ⟨(zRb rfl), (zRb rfl), (by decide)⟩ (zdv (by omega) (fun q38 e38 => ?_))
    obtain rfl : q38 = 0 := (by omega)
    refine And.intro (zRb rfl) (zbt rfl ?_)
    refine hQ _ ?_ (fun c j h0 h1 => ((p32bfr c j h0 h1).trans rfl))
    · first
      | rw [dNu_p1 (by omega)]
      | rw [dNu_p2 (by omega)]
      | rw [dNu_p3 (by omega)]
      | rw [dNu_p4 (by omega)]
      | rw [dNu_p5 (by omega)]
      refine zSy_e (by first | exact p32bbbbbbbbbbbbhsy2 | exact p32bbbbbbbbbbbhsy2 | exact p32bbbbbbbbbbhsy2 | exact p32bbbbbbbbbhsy2 | exact p32bbbbbbbbhsy2 | exact p32bbbbbbbhsy2 | exact p32bbbbbbhsy2 | exact p32bbbbbhsy2 | exact p32bbbbhsy2 | exact p32bbbhsy2 | exact p32bbhsy2 | exact p32bhsy2 | exact p32hsy2 | exact hsy) ?_
      try simp only [List.append_assoc, List.cons_append, List.nil_append]
      congr 1
      simp only [List.cons.injEq, and_true]
      repeat (first | omega | refine And.intro (by omega) ?_)
  · refine And.intro ⟨(by omega), (zRb rfl), (by decide)⟩ (zdv (by omega) (fun q4b e4b => ?_))
    refine And.intro ⟨(by omega), (zRb rfl)⟩ ⟨fun h7b => ?_, fun h7b => ?_⟩
    · refine And.intro (zRb rfl) (zbf rfl ?_)
      refine And.intro ⟨(by omega), (zRb rfl), (by decide)⟩ (zdv (by omega) (fun q27 e27 => ?_))
      refine And.intro ⟨(by omega), (zRb rfl), (by decide)⟩ (zdv (by omega) (fun q30 e30 => ?_))
      refine And.intro (zA_165 hS) ⟨_, sn_Y_say.up (by decide), ?_⟩
      refine ⟨_, _, ((48 + q30) : Int), rfl, hS, hR, (by first | exact p32bbbbbbbbbbbbhsy2 | exact p32bbbbbbbbbbbhsy2 | exact p32bbbbbbbbbbhsy2 | exact p32bbbbbbbbbhsy2 | exact p32bbbbbbbbhsy2 | exact p32bbbbbbbhsy2 | exact p32bbbbbbhsy2 | exact p32bbbbbhsy2 | exact p32bbbbhsy2 | exact p32bbbhsy2 | exact p32bbhsy2 | exact p32bhsy2 | exact p32hsy2 | exact hsy), (by first | omega | (simp only [List.length_append, List.length_cons, List.length_nil]; omega)), (by omega), (by omega), ?_⟩
      intro I32o p32hsy2 p32bfr
      refine And.intro ⟨(zRb rfl), (zRb rfl), (by decide)⟩ (zdv (by omega) (fun q38 e38 => ?_))
      obtain rfl : q38 = 1 := (by omega)
      refine And.intro (zRb rfl) (zbf rfl ?_)
      refine And.intro ⟨(by omega), (zRb rfl), (by decide)⟩ (zdv (by omega) (fun q27b e27b => ?_))
      refine And.intro ⟨(by omega), (zRb rfl), (by decide)⟩ (zdv (by omega) (fun q30b e30b => ?_))
      refine And.intro (zA_165 hS) ⟨_, sn_Y_say.up (by decide), ?_⟩
      refine ⟨_, _, ((48 + q30b) : Int), rfl, hS, hR, (by first | exact p32bbbbbbbbbbbbhsy2 | exact p32bbbbbbbbbbbhsy2 | exact p32bbbbbbbbbbhsy2 | exact p32bbbbbbbbbhsy2 | exact p32bbbbbbbbhsy2 | exact p32bbbbbbbhsy2 | exact p32bbbbbbhsy2 | exact p32bbbbbhsy2 | exact p32bbbbhsy2 | exact p32bbbhsy2 | exact p32bbhsy2 | exact p32bhsy2 | exact p32hsy2 | exact hsy), (by first | omega | (simp only [List.length_append, List.length_cons, List.length_nil]; omega)), (by omega), (by omega), ?_⟩
      intro I32bo p32bbhsy2 p32bbbfr
      refine And.intro ⟨(zRb rfl), (zRb rfl), (by decide)⟩ (zdv (by omega) (fun q38b e38b => ?_))
      obtain rfl : q38b = 0 := (by omega)
      refine And.intro (zRb rfl) (zbt rfl ?_)
      refine hQ _ ?_ (fun c j h0 h1 => ((p32bbbfr c j h0 h1).trans ((p32bfr c j h0 h1).trans rfl)))
      · first
        | rw [dNu_p1 (by omega)]
        | rw [dNu_p2 (by omega)]
        | rw [dNu_p3 (by omega)]
        | rw [dNu_p4 (by omega)]
        | rw [dNu_p5 (by omega)]
        refine zSy_e (by first | exact p32bbbbbbbbbbbbhsy2 | exact p32bbbbbbbbbbbhsy2 | exact p32bbbbbbbbbbhsy2 | exact p32bbbbbbbbbhsy2 | exact p32bbbbbbbbhsy2 | exact p32bbbbbbbhsy2 | exact p32bbbbbbhsy2 | exact p32bbbbbhsy2 | exact p32bbbbhsy2 | exact p32bbbhsy2 | exact p32bbhsy2 | exact p32bhsy2 | exact p32hsy2 | exact hsy) ?_
        try simp only [List.append_assoc, List.cons_append, List.nil_append]
        congr 1
        simp only [List.cons.injEq, and_true]
        repeat (first | omega | refine And.intro (by omega) ?_)
    · refine And.intro ⟨(by omega), (zRb rfl), (by decide)⟩ (zdv (by omega) (fun q4bb e4bb => ?_))
      refine And.intro ⟨(by omega), (zRb rfl)⟩ ⟨fun h7bb => ?_, fun h7bb => ?_⟩
      · refine And.intro (zRb rfl) (zbf rfl ?_)
        refine And.intro ⟨(by omega), (zRb rfl), (by decide)⟩ (zdv (by omega) (fun q27 e27 => ?_))
        refine And.intro ⟨(by omega), (zRb rfl), (by decide)⟩ (zdv (by omega) (fun q30 e30 => ?_))
        refine And.intro (zA_165 hS) ⟨_, sn_Y_say.up (by decide), ?_⟩
        refine ⟨_, _, ((48 + q30) : Int), rfl, hS, hR, (by first | exact p32bbbbbbbbbbbbhsy2 | exact p32bbbbbbbbbbbhsy2 | exact p32bbbbbbbbbbhsy2 | exact p32bbbbbbbbbhsy2 | exact p32bbbbbbbbhsy2 | exact p32bbbbbbbhsy2 | exact p32bbbbbbhsy2 | exact p32bbbbbhsy2 | exact p32bbbbhsy2 | exact p32bbbhsy2 | exact p32bbhsy2 | exact p32bhsy2 | exact p32hsy2 | exact hsy), (by first | omega | (simp only [List.length_append, List.length_cons, List.length_nil]; omega)), (by omega), (by omega), ?_⟩
        intro I32o p32hsy2 p32bfr
        refine And.intro ⟨(zRb rfl), (zRb rfl), (by decide)⟩ (zdv (by omega) (fun q38 e38 => ?_))
        obtain rfl : q38 = 10 := (by omega)
        refine And.intro (zRb rfl) (zbf rfl ?_)
        refine And.intro ⟨(by omega), (zRb rfl), (by decide)⟩ (zdv (by omega) (fun q27b e27b => ?_))
        refine And.intro ⟨(by omega), (zRb rfl), (by decide)⟩ (zdv (by omega) (fun q30b e30b => ?_))
        refine And.intro (zA_165 hS) ⟨_, sn_Y_say.up (by decide), ?_⟩
        refine ⟨_, _, ((48 + q30b) : Int), rfl, hS, hR, (by first | exact p32bbbbbbbbbbbbhsy2 | exact p32bbbbbbbbbbbhsy2 | exact p32bbbbbbbbbbhsy2 | exact p32bbbbbbbbbhsy2 | exact p32bbbbbbbbhsy2 | exact p32bbbbbbbhsy2 | exact p32bbbbbbhsy2 | exact p32bbbbbhsy2 | exact p32bbbbhsy2 | exact p32bbbhsy2 | exact p32bbhsy2 | exact p32bhsy2 | exact p32hsy2 | exact hsy), (by first | omega | (simp only [List.length_append, List.length_cons, List.length_nil]; omega)), (by omega), (by omega), ?_⟩
        intro I32bo p32bbhsy2 p32bbbfr
        refine And.intro ⟨(zRb rfl), (zRb rfl), (by decide)⟩ (zdv (by omega) (fun q38b e38b => ?_))
        obtain rfl : q38b = 1 := (by omega)
        refine And.intro (zRb rfl) (zbf rfl ?_)
        refine And.intro ⟨(by omega), (zRb rfl), (by decide)⟩ (zdv (by omega) (fun q27bb e27bb => ?_))
        refine And.intro ⟨(by omega), (zRb rfl), (by decide)⟩ (zdv (by omega) (fun q30bb e30bb => ?_))
        refine And.intro (zA_165 hS) ⟨_, sn_Y_say.up (by decide), ?_⟩
        refine ⟨_, _, ((48 + q30bb) : Int), rfl, hS, hR, (by first | exact p32bbbbbbbbbbbbhsy2 | exact p32bbbbbbbbbbbhsy2 | exact p32bbbbbbbbbbhsy2 | exact p32bbbbbbbbbhsy2 | exact p32bbbbbbbbhsy2 | exact p32bbbbbbbhsy2 | exact p32bbbbbbhsy2 | exact p32bbbbbhsy2 | exact p32bbbbhsy2 | exact p32bbbhsy2 | exact p32bbhsy2 | exact p32bhsy2 | exact p32hsy2 | exact hsy), (by first | omega | (simp only [List.length_append, List.length_cons, List.length_nil]; omega)), (by omega), (by omega), ?_⟩
        intro I32bbo p32bbbbhsy2 p32bbbbbfr
        refine And.intro ⟨(zRb rfl), (zRb rfl), (by decide)⟩ (zdv (by omega) (fun q38bb e38bb => ?_))
        obtain rfl : q38bb = 0 := (by omega)
        refine And.intro (zRb rfl) (zbt rfl ?_)
        refine hQ _ ?_ (fun c j h0 h1 => ((p32bbbbbfr c j h0 h1).trans ((p32bbbfr c j h0 h1).trans ((p32bfr c j h0 h1).trans rfl))))
        · first
          | rw [dNu_p1 (by omega)]
          | rw [dNu_p2 (by omega)]
          | rw [dNu_p3 (by omega)]
          | rw [dNu_p4 (by omega)]
          | rw [dNu_p5 (by omega)]
          refine zSy_e (by first | exact p32bbbbbbbbbbbbhsy2 | exact p32bbbbbbbbbbbhsy2 | exact p32bbbbbbbbbbhsy2 | exact p32bbbbbbbbbhsy2 | exact p32bbbbbbbbhsy2 | exact p32bbbbbbbhsy2 | exact p32bbbbbbhsy2 | exact p32bbbbbhsy2 | exact p32bbbbhsy2 | exact p32bbbhsy2 | exact p32bbhsy2 | exact p32bhsy2 | exact p32hsy2 | exact hsy) ?_
          try simp only [List.append_assoc, List.cons_append, List.nil_append]
          congr 1
          simp only [List.cons.injEq, and_true]
          repeat (first | omega | refine And.intro (by omega) ?_)
      · refine And.intro ⟨(by omega), (zRb rfl), (by decide)⟩ (zdv (by omega) (fun q4bbb e4bbb => ?_))
        refine And.intro ⟨(by omega), (zRb rfl)⟩ ⟨fun h7bbb => ?_, fun h7bbb => ?_⟩
        · refine And.intro (zRb rfl) (zbf rfl ?_)
          refine And.intro ⟨(by omega), (zRb rfl), (by decide)⟩ (zdv (by omega) (fun q27 e27 => ?_))
          refine And.intro ⟨(by omega), (zRb rfl), (by decide)⟩ (zdv (by omega) (fun q30 e30 => ?_))
          refine And.intro (zA_165 hS) ⟨_, sn_Y_say.up (by decide), ?_⟩
          refine ⟨_, _, ((48 + q30) : Int), rfl, hS, hR, (by first | exact p32bbbbbbbbbbbbhsy2 | exact p32bbbbbbbbbbbhsy2 | exact p32bbbbbbbbbbhsy2 | exact p32bbbbbbbbbhsy2 | exact p32bbbbbbbbhsy2 | exact p32bbbbbbbhsy2 | exact p32bbbbbbhsy2 | exact p32bbbbbhsy2 | exact p32bbbbhsy2 | exact p32bbbhsy2 | exact p32bbhsy2 | exact p32bhsy2 | exact p32hsy2 | exact hsy), (by first | omega | (simp only [List.length_append, List.length_cons, List.length_nil]; omega)), (by omega), (by omega), ?_⟩
          intro I32o p32hsy2 p32bfr
          refine And.intro ⟨(zRb rfl), (zRb rfl), (by decide)⟩ (zdv (by omega) (fun q38 e38 => ?_))
          obtain rfl : q38 = 100 := (by omega)
          refine And.intro (zRb rfl) (zbf rfl ?_)
          refine And.intro ⟨(by omega), (zRb rfl), (by decide)⟩ (zdv (by omega) (fun q27b e27b => ?_))
          refine And.intro ⟨(by omega), (zRb rfl), (by decide)⟩ (zdv (by omega) (fun q30b e30b => ?_))
          refine And.intro (zA_165 hS) ⟨_, sn_Y_say.up (by decide), ?_⟩
          refine ⟨_, _, ((48 + q30b) : Int), rfl, hS, hR, (by first | exact p32bbbbbbbbbbbbhsy2 | exact p32bbbbbbbbbbbhsy2 | exact p32bbbbbbbbbbhsy2 | exact p32bbbbbbbbbhsy2 | exact p32bbbbbbbbhsy2 | exact p32bbbbbbbhsy2 | exact p32bbbbbbhsy2 | exact p32bbbbbhsy2 | exact p32bbbbhsy2 | exact p32bbbhsy2 | exact p32bbhsy2 | exact p32bhsy2 | exact p32hsy2 | exact hsy), (by first | omega | (simp only [List.length_append, List.length_cons, List.length_nil]; omega)), (by omega), (by omega), ?_⟩
          intro I32bo p32bbhsy2 p32bbbfr
          refine And.intro ⟨(zRb rfl), (zRb rfl), (by decide)⟩ (zdv (by omega) (fun q38b e38b => ?_))
          obtain rfl : q38b = 10 := (by omega)
          refine And.intro (zRb rfl) (zbf rfl ?_)
          refine And.intro ⟨(by omega), (zRb rfl), (by decide)⟩ (zdv (by omega) (fun q27bb e27bb => ?_))
          refine And.intro ⟨(by omega), (zRb rfl), (by decide)⟩ (zdv (by omega) (fun q30bb e30bb => ?_))
          refine And.intro (zA_165 hS) ⟨_, sn_Y_say.up (by decide), ?_⟩
          refine ⟨_, _, ((48 + q30bb) : Int), rfl, hS, hR, (by first | exact p32bbbbbbbbbbbbhsy2 | exact p32bbbbbbbbbbbhsy2 | exact p32bbbbbbbbbbhsy2 | exact p32bbbbbbbbbhsy2 | exact p32bbbbbbbbhsy2 | exact p32bbbbbbbhsy2 | exact p32bbbbbbhsy2 | exact p32bbbbbhsy2 | exact p32bbbbhsy2 | exact p32bbbhsy2 | exact p32bbhsy2 | exact p32bhsy2 | exact p32hsy2 | exact hsy), (by first | omega | (simp only [List.length_append, List.length_cons, List.length_nil]; omega)), (by omega), (by omega), ?_⟩
          intro I32bbo p32bbbbhsy2 p32bbbbbfr
          refine And.intro ⟨(zRb rfl), (zRb rfl), (by decide)⟩ (zdv (by omega) (fun q38bb e38bb => ?_))
          obtain rfl : q38bb = 1 := (by omega)
          refine And.intro (zRb rfl) (zbf rfl ?_)
          refine And.intro ⟨(by omega), (zRb rfl), (by decide)⟩ (zdv (by omega) (fun q27bbb e27bbb => ?_))
          refine And.intro ⟨(by omega), (zRb rfl), (by decide)⟩ (zdv (by omega) (fun q30bbb e30bbb => ?_))
          refine And.intro (zA_165 hS) ⟨_, sn_Y_say.up (by decide), ?_⟩
          refine ⟨_, _, ((48 + q30bbb) : Int), rfl, hS, hR, (by first | exact p32bbbbbbbbbbbbhsy2 | exact p32bbbbbbbbbbbhsy2 | exact p32bbbbbbbbbbhsy2 | exact p32bbbbbbbbbhsy2 | exact p32bbbbbbbbhsy2 | exact p32bbbbbbbhsy2 | exact p32bbbbbbhsy2 | exact p32bbbbbhsy2 | exact p32bbbbhsy2 | exact p32bbbhsy2 | exact p32bbhsy2 | exact p32bhsy2 | exact p32hsy2 | exact hsy), (by first | omega | (simp only [List.length_append, List.length_cons, List.length_nil]; omega)), (by omega), (by omega), ?_⟩
          intro I32bbbo p32bbbbbbhsy2 p32bbbbbbbfr
          refine And.intro ⟨(zRb rfl), (zRb rfl), (by decide)⟩ (zdv (by omega) (fun q38bbb e38bbb => ?_))
          obtain rfl : q38bbb = 0 := (by omega)
          refine And.intro (zRb rfl) (zbt rfl ?_)
          refine hQ _ ?_ (fun c j h0 h1 => ((p32bbbbbbbfr c j h0 h1).trans ((p32bbbbbfr c j h0 h1).trans ((p32bbbfr c j h0 h1).trans ((p32bfr c j h0 h1).trans rfl)))))
          · first
            | rw [dNu_p1 (by omega)]
            | rw [dNu_p2 (by omega)]
            | rw [dNu_p3 (by omega)]
            | rw [dNu_p4 (by omega)]
            | rw [dNu_p5 (by omega)]
            refine zSy_e (by first | exact p32bbbbbbbbbbbbhsy2 | exact p32bbbbbbbbbbbhsy2 | exact p32bbbbbbbbbbhsy2 | exact p32bbbbbbbbbhsy2 | exact p32bbbbbbbbhsy2 | exact p32bbbbbbbhsy2 | exact p32bbbbbbhsy2 | exact p32bbbbbhsy2 | exact p32bbbbhsy2 | exact p32bbbhsy2 | exact p32bbhsy2 | exact p32bhsy2 | exact p32hsy2 | exact hsy) ?_
            try simp only [List.append_assoc, List.cons_append, List.nil_append]
            congr 1
            simp only [List.cons.injEq, and_true]
            repeat (first | omega | refine And.intro (by omega) ?_)
        · refine And.intro ⟨(by omega), (zRb rfl), (by decide)⟩ (zdv (by omega) (fun q4bbbb e4bbbb => ?_))
          refine And.intro ⟨(by omega), (zRb rfl)⟩ ⟨fun h7bbbb => ?_, (fun h7bbbb => False.elim (by omega))⟩
          refine And.intro (zRb rfl) (zbf rfl ?_)
          refine And.intro ⟨(by omega), (zRb rfl), (by decide)⟩ (zdv (by omega) (fun q27 e27 => ?_))
          refine And.intro ⟨(by omega), (zRb rfl), (by decide)⟩ (zdv (by omega) (fun q30 e30 => ?_))
          refine And.intro (zA_165 hS) ⟨_, sn_Y_say.up (by decide), ?_⟩
          refine ⟨_, _, ((48 + q30) : Int), rfl, hS, hR, (by first | exact p32bbbbbbbbbbbbhsy2 | exact p32bbbbbbbbbbbhsy2 | exact p32bbbbbbbbbbhsy2 | exact p32bbbbbbbbbhsy2 | exact p32bbbbbbbbhsy2 | exact p32bbbbbbbhsy2 | exact p32bbbbbbhsy2 | exact p32bbbbbhsy2 | exact p32bbbbhsy2 | exact p32bbbhsy2 | exact p32bbhsy2 | exact p32bhsy2 | exact p32hsy2 | exact hsy), (by first | omega | (simp only [List.length_append, List.length_cons, List.length_nil]; omega)), (by omega), (by omega), ?_⟩
          intro I32o p32hsy2 p32bfr
          refine And.intro ⟨(zRb rfl), (zRb rfl), (by decide)⟩ (zdv (by omega) (fun q38 e38 => ?_))
          obtain rfl : q38 = 1000 := (by omega)
          refine And.intro (zRb rfl) (zbf rfl ?_)
          refine And.intro ⟨(by omega), (zRb rfl), (by decide)⟩ (zdv (by omega) (fun q27b e27b => ?_))
          refine And.intro ⟨(by omega), (zRb rfl), (by decide)⟩ (zdv (by omega) (fun q30b e30b => ?_))
          refine And.intro (zA_165 hS) ⟨_, sn_Y_say.up (by decide), ?_⟩
          refine ⟨_, _, ((48 + q30b) : Int), rfl, hS, hR, (by first | exact p32bbbbbbbbbbbbhsy2 | exact p32bbbbbbbbbbbhsy2 | exact p32bbbbbbbbbbhsy2 | exact p32bbbbbbbbbhsy2 | exact p32bbbbbbbbhsy2 | exact p32bbbbbbbhsy2 | exact p32bbbbbbhsy2 | exact p32bbbbbhsy2 | exact p32bbbbhsy2 | exact p32bbbhsy2 | exact p32bbhsy2 | exact p32bhsy2 | exact p32hsy2 | exact hsy), (by first | omega | (simp only [List.length_append, List.length_cons, List.length_nil]; omega)), (by omega), (by omega), ?_⟩
          intro I32bo p32bbhsy2 p32bbbfr
          refine And.intro ⟨(zRb rfl), (zRb rfl), (by decide)⟩ (zdv (by omega) (fun q38b e38b => ?_))
          obtain rfl : q38b = 100 := (by omega)
          refine And.intro (zRb rfl) (zbf rfl ?_)
          refine And.intro ⟨(by omega), (zRb rfl), (by decide)⟩ (zdv (by omega) (fun q27bb e27bb => ?_))
          refine And.intro ⟨(by omega), (zRb rfl), (by decide)⟩ (zdv (by omega) (fun q30bb e30bb => ?_))
          refine And.intro (zA_165 hS) ⟨_, sn_Y_say.up (by decide), ?_⟩
          refine ⟨_, _, ((48 + q30bb) : Int), rfl, hS, hR, (by first | exact p32bbbbbbbbbbbbhsy2 | exact p32bbbbbbbbbbbhsy2 | exact p32bbbbbbbbbbhsy2 | exact p32bbbbbbbbbhsy2 | exact p32bbbbbbbbhsy2 | exact p32bbbbbbbhsy2 | exact p32bbbbbbhsy2 | exact p32bbbbbhsy2 | exact p32bbbbhsy2 | exact p32bbbhsy2 | exact p32bbhsy2 | exact p32bhsy2 | exact p32hsy2 | exact hsy), (by first | omega | (simp only [List.length_append, List.length_cons, List.length_nil]; omega)), (by omega), (by omega), ?_⟩
          intro I32bbo p32bbbbhsy2 p32bbbbbfr
          refine And.intro ⟨(zRb rfl), (zRb rfl), (by decide)⟩ (zdv (by omega) (fun q38bb e38bb => ?_))
          obtain rfl : q38bb = 10 := (by omega)
          refine And.intro (zRb rfl) (zbf rfl ?_)
          refine And.intro ⟨(by omega), (zRb rfl), (by decide)⟩ (zdv (by omega) (fun q27bbb e27bbb => ?_))
          refine And.intro ⟨(by omega), (zRb rfl), (by decide)⟩ (zdv (by omega) (fun q30bbb e30bbb => ?_))
          refine And.intro (zA_165 hS) ⟨_, sn_Y_say.up (by decide), ?_⟩
          refine ⟨_, _, ((48 + q30bbb) : Int), rfl, hS, hR, (by first | exact p32bbbbbbbbbbbbhsy2 | exact p32bbbbbbbbbbbhsy2 | exact p32bbbbbbbbbbhsy2 | exact p32bbbbbbbbbhsy2 | exact p32bbbbbbbbhsy2 | exact p32bbbbbbbhsy2 | exact p32bbbbbbhsy2 | exact p32bbbbbhsy2 | exact p32bbbbhsy2 | exact p32bbbhsy2 | exact p32bbhsy2 | exact p32bhsy2 | exact p32hsy2 | exact hsy), (by first | omega | (simp only [List.length_append, List.length_cons, List.length_nil]; omega)), (by omega), (by omega), ?_⟩
          intro I32bbbo p32bbbbbbhsy2 p32bbbbbbbfr
          refine And.intro ⟨(zRb rfl), (zRb rfl), (by decide)⟩ (zdv (by omega) (fun q38bbb e38bbb => ?_))
          obtain rfl : q38bbb = 1 := (by omega)
          refine And.intro (zRb rfl) (zbf rfl ?_)
          refine And.intro ⟨(by omega), (zRb rfl), (by decide)⟩ (zdv (by omega) (fun q27bbbb e27bbbb => ?_))
          refine And.intro ⟨(by omega), (zRb rfl), (by decide)⟩ (zdv (by omega) (fun q30bbbb e30bbbb => ?_))
          refine And.intro (zA_165 hS) ⟨_, sn_Y_say.up (by decide), ?_⟩
          refine ⟨_, _, ((48 + q30bbbb) : Int), rfl, hS, hR, (by first | exact p32bbbbbbbbbbbbhsy2 | exact p32bbbbbbbbbbbhsy2 | exact p32bbbbbbbbbbhsy2 | exact p32bbbbbbbbbhsy2 | exact p32bbbbbbbbhsy2 | exact p32bbbbbbbhsy2 | exact p32bbbbbbhsy2 | exact p32bbbbbhsy2 | exact p32bbbbhsy2 | exact p32bbbhsy2 | exact p32bbhsy2 | exact p32bhsy2 | exact p32hsy2 | exact hsy), (by first | omega | (simp only [List.length_append, List.length_cons, List.length_nil]; omega)), (by omega), (by omega), ?_⟩
          intro I32bbbbo p32bbbbbbbbhsy2 p32bbbbbbbbbfr
          refine And.intro ⟨(zRb rfl), (zRb rfl), (by decide)⟩ (zdv (by omega) (fun q38bbbb e38bbbb => ?_))
          obtain rfl : q38bbbb = 0 := (by omega)
          refine And.intro (zRb rfl) (zbt rfl ?_)
          refine hQ _ ?_ (fun c j h0 h1 => ((p32bbbbbbbbbfr c j h0 h1).trans ((p32bbbbbbbfr c j h0 h1).trans ((p32bbbbbfr c j h0 h1).trans ((p32bbbfr c j h0 h1).trans ((p32bfr c j h0 h1).trans rfl))))))
          · first
            | rw [dNu_p1 (by omega)]
            | rw [dNu_p2 (by omega)]
            | rw [dNu_p3 (by omega)]
            | rw [dNu_p4 (by omega)]
            | rw [dNu_p5 (by omega)]
            refine zSy_e (by first | exact p32bbbbbbbbbbbbhsy2 | exact p32bbbbbbbbbbbhsy2 | exact p32bbbbbbbbbbhsy2 | exact p32bbbbbbbbbhsy2 | exact p32bbbbbbbbhsy2 | exact p32bbbbbbbhsy2 | exact p32bbbbbbhsy2 | exact p32bbbbbhsy2 | exact p32bbbbhsy2 | exact p32bbbhsy2 | exact p32bbhsy2 | exact p32bhsy2 | exact p32hsy2 | exact hsy) ?_
            try simp only [List.append_assoc, List.cons_append, List.nil_append]
            congr 1
            simp only [List.cons.injEq, and_true]
            repeat (first | omega | refine And.intro (by omega) ?_))
