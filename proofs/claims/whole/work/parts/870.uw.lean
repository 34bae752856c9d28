/-! uw -/
def T_Y_sax : ZT := fun args I L R S Q => ∃ (a : Int) (m : Int) (t : List Int) (u : Int), args = [zvr 165, zvi u] ∧ (zSh S) ∧ (zRs R) ∧ (zSx a m t I) ∧ (t.length ≤ 2000) ∧ (0 ≤ m ∧ m ≤ 2147483647) ∧ (r32 u) ∧ ∀ (I' : ZI), (zSx a m (t ++ [u]) I') → (∀ c j : Nat, ¬ (c = 165 ∧ j = 45) → ¬ (c = 165 ∧ j = 46) → I' c j = I c j) → Q none I' L R S
theorem sn_Y_sax : ZSnd 1 21 64 T_Y_sax := ZSnd.of (zT21_64 0) (by
  rintro args I L R S Q hz ⟨a, m, t, u, rfl, hS, hR, hsy, ht8, hmb, hu, hQ⟩
  obtain ⟨hs44, hs45, hs46⟩ := id hsy
  refine And.intro rfl ?_
  refine And.intro (zA_165 hS) (zrd (v := (t.length)) hs45 ?_)
  refine And.intro (zA_165 hS) (zrd (v := m) hs44 ?_)
  refine And.intro ⟨(by omega), (by omega)⟩ ⟨fun h8 => ?_, fun h8 => ?_⟩
  · refine And.intro (zA_165 hS) (zrd (v := (t.length)) hs45 ?_)
    refine And.intro (zA_165 hS) ⟨_, (zWi (by omega)), ?_⟩
    refine hQ _ ?_ (fun c j h0 h1 => (zxcj h0 rfl))
    · first
      | exact zSx_y hsy (by omega) (zxs (by decide) (zxs (by decide) hs44)) (by first | exact zxe | exact zxe.trans (by omega)) (zxs (by decide) zxe)
      | exact zSx_n hsy (by omega) (zxs (by decide) hs44) (by first | exact zxe | exact zxe.trans (by omega)) (zxs (by decide) rfl)
  · refine And.intro (zA_165 hS) ⟨_, (zWi (by omega)), ?_⟩
    refine And.intro (zA_165 hS) (zrd (v := (t.length)) hs45 ?_)
    refine And.intro (zA_165 hS) ⟨_, (zWi (by omega)), ?_⟩
    refine hQ _ ?_ (fun c j h0 h1 => (zxcj h0 (zxcj h1 rfl)))
    · first
      | exact zSx_y hsy (by omega) (zxs (by decide) (zxs (by decide) hs44)) (by first | exact zxe | exact zxe.trans (by omega)) (zxs (by decide) zxe)
      | exact zSx_n hsy (by omega) (zxs (by decide) hs44) (by first | exact zxe | exact zxe.trans (by omega)) (zxs (by decide) rfl))
def T_Y_snx : ZT := fun args I L R S Q => ∃ (a : Int) (m : Int) (t : List Int) (v : Int), args = [zvr 165, zvi v] ∧ (zSh S) ∧ (zRs R) ∧ (zSx a m t I) ∧ (t.length ≤ 1900) ∧ (0 ≤ m ∧ m ≤ 2147483647) ∧ (0 ≤ v ∧ v ≤ 99999) ∧ ∀ (I' : ZI), (zSx a m (t ++ dNu v) I') → (∀ c j : Nat, ¬ (c = 165 ∧ j = 45) → ¬ (c = 165 ∧ j = 46) → I' c j = I c j) → Q none I' L R S
theorem sn_Y_snx : ZSnd 2 21 66 T_Y_snx := ZSnd.of (zT21_66 1) (by
  rintro args I L R S Q hz ⟨a, m, t, v, rfl, hS, hR, hsy, ht8, hmb, hv, hQ⟩
  refine And.intro rfl ?_
  refine And.intro ⟨(by omega), (zRb rfl), (by decide)⟩ (zdv (by omega) (fun q4 e4 => ?_))
  refine And.intro ⟨(by omega), (zRb rfl)⟩ ⟨fun h7 => ?_, fun h7 => ?_⟩
  · refine And.intro (zRb rfl) (zbf rfl ?_)
    refine And.intro ⟨(by omega), (zRb rfl), (by decide)⟩ (zdv (by omega) (fun q27 e27 => ?_))
    refine And.intro ⟨(by omega), (zRb rfl), (by decide)⟩ (zdv (by omega) (fun q30 e30 => ?_))
    refine And.intro (zA_165 hS) ⟨_, sn_Y_sax.up (by decide), ?_⟩
    refine ⟨_, _, _, ((48 + q30) : Int), rfl, hS, hR, (by first | exact p32bbbbbbbbbbbbhsy2 | exact p32bbbbbbbbbbbhsy2 | exact p32bbbbbbbbbbhsy2 | exact p32bbbbbbbbbhsy2 | exact p32bbbbbbbbhsy2 | exact p32bbbbbbbhsy2 | exact p32bbbbbbhsy2 | exact p32bbbbbhsy2 | exact p32bbbbhsy2 | exact p32bbbhsy2 | exact p32bbhsy2 | exact p32bhsy2 | exact p32hsy2 | exact hsy), (by first | omega | (simp only [List.length_append, List.length_cons, List.length_nil]; omega)), (by omega), (by omega), ?_⟩
    intro I32o p32hsy2 p32bfr
    refine And.intro ⟨(zRb rfl), (zRb rfl), (by decide)⟩ (zdv (by omega) (fun q38 e38 => ?_))
    obtain rfl : q38 = 0 := (by omega)
    refine And.intro (zRb rfl) (zbt rfl ?_)
    refine hQ _ ?_ (fun c j h0 h1 => ((p32bfr c j h0 h1).trans rfl))
    · first
      | rw [dNu_p1 (by omega)]
      | rw [dNu_p2 (by omega)]
      | rw [dNu_p3 (by omega)]
      | rw [dNu_p4 (by omega)]
      | rw [dNu_p5 (by omega)]
      refine zSx_e (by first | exact p32bbbbbbbbbbbbhsy2 | exact p32bbbbbbbbbbbhsy2 | exact p32bbbbbbbbbbhsy2 | exact p32bbbbbbbbbhsy2 | exact p32bbbbbbbbhsy2 | exact p32bbbbbbbhsy2 | exact p32bbbbbbhsy2 | exact p32bbbbbhsy2 | exact p32bbbbhsy2 | exact p32bbbhsy2 | exact p32bbhsy2 | exact p32bhsy2 | exact p32hsy2 | exact hsy) ?_
      try simp only [List.append_assoc, List.cons_append, List.nil_append]
      congr 1
      simp only [List.cons.injEq, and_true]
      repeat (first | omega | refine And.intro (by omega) ?_)
  · refine And.intro ⟨(by omega), (zRb rfl), (by decide)⟩ (zdv (by omega) (fun q4b e4b => ?_))
    refine And.intro ⟨(by omega), (zRb rfl)⟩ ⟨fun h7b => ?_, fun h7b => ?_⟩
    · refine And.intro (zRb rfl) (zbf rfl ?_)
      refine And.intro ⟨(by omega), (zRb rfl), (by decide)⟩ (zdv (by omega) (fun q27 e27 => ?_))
      refine And.intro ⟨(by omega), (zRb rfl), (by decide)⟩ (zdv (by omega) (fun q30 e30 => ?_))
      refine And.intro (zA_165 hS) ⟨_, sn_Y_sax.up (by decide), ?_⟩
      refine ⟨_, _, _, ((48 + q30) : Int), rfl, hS, hR, (by first | exact p32bbbbbbbbbbbbhsy2 | exact p32bbbbbbbbbbbhsy2 | exact p32bbbbbbbbbbhsy2 | exact p32bbbbbbbbbhsy2 | exact p32bbbbbbbbhsy2 | exact p32bbbbbbbhsy2 | exact p32bbbbbbhsy2 | exact p32bbbbbhsy2 | exact p32bbbbhsy2 | exact p32bbbhsy2 | exact p32bbhsy2 | exact p32bhsy2 | exact p32hsy2 | exact hsy), (by first | omega | (simp only [List.length_append, List.length_cons, List.length_nil]; omega)), (by omega), (by omega), ?_⟩
      intro I32o p32hsy2 p32bfr
      refine And.intro ⟨(zRb rfl), (zRb rfl), (by decide)⟩ (zdv (by omega) (fun q38 e38 => ?_))
      obtain rfl : q38 = 1 := (by omega)
      refine And.intro (zRb rfl) (zbf rfl ?_)
      refine And.intro ⟨(by omega), (zRb rfl), (by decide)⟩ (zdv (by omega) (fun q27b e27b => ?_))
      refine And.intro ⟨(by omega), (zRb rfl), (by decide)⟩ (zdv (by omega) (fun q30b e30b => ?_))
      refine And.intro (zA_165 hS) ⟨_, sn_Y_sax.up (by decide), ?_⟩
      refine ⟨_, _, _, ((48 + q30b) : Int), rfl, hS, hR, (by first | exact p32bbbbbbbbbbbbhsy2 | exact p32bbbbbbbbbbbhsy2 | exact p32bbbbbbbbbbhsy2 | exact p32bbbbbbbbbhsy2 | exact p32bbbbbbbbhsy2 | exact p32bbbbbbbhsy2 | exact p32bbbbbbhsy2 | exact p32bbbbbhsy2 | exact p32bbbbhsy2 | exact p32bbbhsy2 | exact p32bbhsy2 | exact p32bhsy2 | exact p32hsy2 | exact hsy), (by first | omega | (simp only [List.length_append, List.length_cons, List.length_nil]; omega)), (by omega), (by omega), ?_⟩
      intro I32bo p32bbhsy2 p32bbbfr
      refine And.intro ⟨(zRb rfl), (zRb rfl), (by decide)⟩ (zdv (by omega) (fun q38b e38b => ?_))
      obtain rfl : q38b = 0 := (by omega)
      refine And.intro (zRb rfl) (zbt rfl ?_)
      refine hQ _ ?_ (fun c j h0 h1 => ((p32bbbfr c j h0 h1).trans ((p32bfr c j h0 h1).trans rfl)))
      · first
        | rw [dNu_p1 (by omega)]
        | rw [dNu_p2 (by omega)]
        | rw [dNu_p3 (by omega)]
        | rw [dNu_p4 (by omega)]
        | rw [dNu_p5 (by omega)]
        refine zSx_e (by first | exact p32bbbbbbbbbbbbhsy2 | exact p32bbbbbbbbbbbhsy2 | exact p32bbbbbbbbbbhsy2 | exact p32bbbbbbbbbhsy2 | exact p32bbbbbbbbhsy2 | exact p32bbbbbbbhsy2 | exact p32bbbbbbhsy2 | exact p32bbbbbhsy2 | exact p32bbbbhsy2 | exact p32bbbhsy2 | exact p32bbhsy2 | exact p32bhsy2 | exact p32hsy2 | exact hsy) ?_
        try simp only [List.append_assoc, List.cons_append, List.nil_append]
        congr 1
        simp only [List.cons.injEq, and_true]
        repeat (first | omega | refine And.intro (by omega) ?_)
    · refine And.intro ⟨(by omega), (zRb rfl), (by decide)⟩ (zdv (by omega) (fun q4bb e4bb => ?_))
      refine And.intro ⟨(by omega), (zRb rfl)⟩ ⟨fun h7bb => ?_, fun h7bb => ?_⟩
      · refine And.intro (zRb rfl) (zbf rfl ?_)
        refine And.intro ⟨(by omega), (zRb rfl), (by decide)⟩ (zdv (by omega) (fun q27 e27 => ?_))
        refine And.intro ⟨(by omega), (zRb rfl), (by decide)⟩ (zdv (by omega) (fun q30 e30 => ?_))
        refine And.intro (zA_165 hS) ⟨_, sn_Y_sax.up (by decide), ?_⟩
        refine ⟨_, _, _, ((48 + q30) : Int), rfl, hS, hR, (by first | exact p32bbbbbbbbbbbbhsy2 | exact p32bbbbbbbbbbbhsy2 | exact p32bbbbbbbbbbhsy2 | exact p32bbbbbbbbbhsy2 | exact p32bbbbbbbbhsy2 | exact p32bbbbbbbhsy2 | exact p32bbbbbbhsy2 | exact p32bbbbbhsy2 | exact p32bbbbhsy2 | exact p32bbbhsy2 | exact p32bbhsy2 | exact p32bhsy2 | exact p32hsy2 | exact hsy), (by first | omega | (simp only [List.length_append, List.length_cons, List.length_nil]; omega)), (by omega), (by omega), ?_⟩
        intro I32o p32hsy2 p32bfr
        refine And.intro ⟨(zRb rfl), (zRb rfl), (by decide)⟩ (zdv (by omega) (fun q38 e38 => ?_))
        obtain rfl : q38 = 10 := (by omega)
        refine And.intro (zRb rfl) (zbf rfl ?_)
        refine And.intro ⟨(by omega), (zRb rfl), (by decide)⟩ (zdv (by omega) (fun q27b e27b => ?_))
        refine And.intro ⟨(by omega), (zRb rfl), (by decide)⟩ (zdv (by omega) (fun q30b e30b => ?_))
        refine And.intro (zA_165 hS) ⟨_, sn_Y_sax.up (by decide), ?_⟩
        refine ⟨_, _, _, ((48 + q30b) : Int), rfl, hS, hR, (by first | exact p32bbbbbbbbbbbbhsy2 | exact p32bbbbbbbbbbbhsy2 | exact p32bbbbbbbbbbhsy2 | exact p32bbbbbbbbbhsy2 | exact p32bbbbbbbbhsy2 | exact p32bbbbbbbhsy2 | exact p32bbbbbbhsy2 | exact p32bbbbbhsy2 | exact p32bbbbhsy2 | exact p32bbbhsy2 | exact p32bbhsy2 | exact p32bhsy2 | exact p32hsy2 | exact hsy), (by first | omega | (simp only [List.length_append, List.length_cons, List.length_nil]; omega)), (by omega), (by omega), ?_⟩
        intro I32bo p32bbhsy2 p32bbbfr
        refine And.intro ⟨(zRb rfl), (zRb rfl), (by decide)⟩ (zdv (by omega) (fun q38b e38b => ?_))
        obtain rfl : q38b = 1 := (by omega)
        refine And.intro (zRb rfl) (zbf rfl ?_)
        refine And.intro ⟨(by omega), (zRb rfl), (by decide)⟩ (zdv (by omega) (fun q27bb e27bb => ?_))
        refine And.intro ⟨(by omega), (zRb rfl), (by decide)⟩ (zdv (by omega) (fun q30bb e30bb => ?_))
        refine And.intro (zA_165 hS) ⟨_, sn_Y_sax.up (by decide), ?_⟩
        refine ⟨_, _, _, ((48 + q30bb) : Int), rfl, hS, hR, (by first | exact p32bbbbbbbbbbbbhsy2 | exact p32bbbbbbbbbbbhsy2 | exact p32bbbbbbbbbbhsy2 | exact p32bbbbbbbbbhsy2 | exact p32bbbbbbbbhsy2 | exact p32bbbbbbbhsy2 | exact p32bbbbbbhsy2 | exact p32bbbbbhsy2 | exact p32bbbbhsy2 | exact p32bbbhsy2 | exact p32bbhsy2 | exact p32bhsy2 | exact p32hsy2 | exact hsy), (by first | omega | (simp only [List.length_append, List.length_cons, List.length_nil]; omega)), (by omega), (by omega), ?_⟩
        intro I32bbo p32bbbbhsy2 p32bbbbbfr
        refine And.intro ⟨(zRb rfl), (zRb rfl), (by decide)⟩ (zdv (by omega) (fun q38bb e38bb => ?_))
        obtain rfl : q38bb = 0 := (by omega)
        refine And.intro (zRb rfl) (zbt rfl ?_)
        refine hQ _ ?_ (fun c j h0 h1 => ((p32bbbbbfr c j h0 h1).trans ((p32bbbfr c j h0 h1).trans ((p32bfr c j h0 h1).trans rfl))))
        · first
          | rw [dNu_p1 (by omega)]
          | rw [dNu_p2 (by omega)]
          | rw [dNu_p3 (by omega)]
          | rw [dNu_p4 (by omega)]
          | rw [dNu_p5 (by omega)]
          refine zSx_e (by first | exact p32bbbbbbbbbbbbhsy2 | exact p32bbbbbbbbbbbhsy2 | exact p32bbbbbbbbbbhsy2 | exact p32bbbbbbbbbhsy2 | exact p32bbbbbbbbhsy2 | exact p32bbbbbbbhsy2 | exact p32bbbbbbhsy2 | exact p32bbbbbhsy2 | exact p32bbbbhsy2 | exact p32bbbhsy2 | exact p32bbhsy2 | exact p32bhsy2 | exact p32hsy2 | exact hsy) ?_
          try simp only [List.append_assoc, List.cons_append, List.nil_append]
          congr 1
          simp only [List.cons.injEq, and_true]
          repeat (first | omega | refine And.intro (by omega) ?_)
      · refine And.intro ⟨(by omega), (zRb rfl), (by decide)⟩ (zdv (by omega) (fun q4bbb e4bbb => ?_))
        refine And.intro ⟨(by omega), (zRb rfl)⟩ ⟨fun h7bbb => ?_, fun h7bbb => ?_⟩
        · refine And.intro (zRb rfl) (zbf rfl ?_)
          refine And.intro ⟨(by omega), (zRb rfl), (by decide)⟩ (zdv (by omega) (fun q27 e27 => ?_))
          refine And.intro ⟨(by omega), (zRb rfl), (by decide)⟩ (zdv (by omega) (fun q30 e30 => ?_))
          refine And.intro (zA_165 hS) ⟨_, sn_Y_sax.up (by decide), ?_⟩
          refine ⟨_, _, _, ((48 + q30) : Int), rfl, hS, hR, (by first | exact p32bbbbbbbbbbbbhsy2 | exact p32bbbbbbbbbbbhsy2 | exact p32bbbbbbbbbbhsy2 | exact p32bbbbbbbbbhsy2 | exact p32bbbbbbbbhsy2 | exact p32bbbbbbbhsy2 | exact p32bbbbbbhsy2 | exact p32bbbbbhsy2 | exact p32bbbbhsy2 | exact p32bbbhsy2 | exact p32bbhsy2 | exact p32bhsy2 | exact p32hsy2 | exact hsy), (by first | omega | (simp only [List.length_append, List.length_cons, List.length_nil]; omega)), (by omega), (by omega), ?_⟩
          intro I32o p32hsy2 p32bfr
          refine And.intro ⟨(zRb rfl), (zRb rfl), (by decide)⟩ (zdv (by omega) (fun q38 e38 => ?_))
          obtain rfl : q38 = 100 := (by omega)
          refine And.intro (zRb rfl) (zbf rfl ?_)
          refine And.intro ⟨(by omega), (zRb rfl), (by decide)⟩ (zdv (by omega) (fun q27b e27b => ?_))
          refine And.intro ⟨(by omega), (zRb rfl), (by decide)⟩ (zdv (by omega) (fun q30b e30b => ?_))
          refine And.intro (zA_165 hS) ⟨_, sn_Y_sax.up (by decide), ?_⟩
          refine ⟨_, _, _, ((48 + q30b) : Int), rfl, hS, hR, (by first | exact p32bbbbbbbbbbbbhsy2 | exact p32bbbbbbbbbbbhsy2 | exact p32bbbbbbbbbbhsy2 | exact p32bbbbbbbbbhsy2 | exact p32bbbbbbbbhsy2 | exact p32bbbbbbbhsy2 | exact p32bbbbbbhsy2 | exact p32bbbbbhsy2 | exact p32bbbbhsy2 | exact p32bbbhsy2 | exact p32bbhsy2 | exact p32bhsy2 | exact p32hsy2 | exact hsy), (by first | omega | (simp only [List.length_append, List.length_cons, List.length_nil]; omega)), (by omega), (by omega), ?_⟩
          intro I32bo p32bbhsy2 p32bbbfr
          refine And.intro ⟨(zRb rfl), (zRb rfl), (by decide)⟩ (zdv (by omega) (fun q38b e38b => ?_))
          obtain rfl : q38b = 10 := (by omega)
          refine And.intro (zRb rfl) (zbf rfl ?_)
          refine And.intro ⟨(by omega), (zRb rfl), (by decide)⟩ (zdv (by omega) (fun q27bb e27bb => ?_))
          refine And.intro ⟨(by omega), (zRb rfl), (by decide)⟩ (zdv (by omega) (fun q30bb e30bb => ?_))
          refine And.intro (zA_165 hS) ⟨_, sn_Y_sax.up (by decide), ?_⟩
          refine ⟨_, _, _, ((48 + q30bb) : Int), rfl, hS, hR, (by first | exact p32bbbbbbbbbbbbhsy2 | exact p32bbbbbbbbbbbhsy2 | exact p32bbbbbbbbbbhsy2 | exact p32bbbbbbbbbhsy2 | exact p32bbbbbbbbhsy2 | exact p32bbbbbbbhsy2 | exact p32bbbbbbhsy2 | exact p32bbbbbhsy2 | exact p32bbbbhsy2 | exact p32bbbhsy2 | exact p32bbhsy2 | exact p32bhsy2 | exact p32hsy2 | exact hsy), (by first | omega | (simp only [List.length_append, List.length_cons, List.length_nil]; omega)), (by omega), (by omega), ?_⟩
          intro I32bbo p32bbbbhsy2 p32bbbbbfr
          refine And.intro ⟨(zRb rfl), (zRb rfl), (by decide)⟩ (zdv (by omega) (fun q38bb e38bb => ?_))
          obtain rfl : q38bb = 1 := (by omega)
          refine And.intro (zRb rfl) (zbf rfl ?_)
          refine And.intro ⟨(by omega), (zRb rfl), (by decide)⟩ (zdv (by omega) (fun q27bbb e27bbb => ?_))
          refine And.intro ⟨(by omega), (zRb rfl), (by decide)⟩ (zdv (by omega) (fun q30bbb e30bbb => ?_))
          refine And.intro (zA_165 hS) ⟨_, sn_Y_sax.up (by decide), ?_⟩
          refine ⟨_, _, _, ((48 + q30bbb) : Int), rfl, hS, hR, (by first | exact p32bbbbbbbbbbbbhsy2 | exact p32bbbbbbbbbbbhsy2 | exact p32bbbbbbbbbbhsy2 | exact p32bbbbbbbbbhsy2 | exact p32bbbbbbbbhsy2 | exact p32bbbbbbbhsy2 | exact p32bbbbbbhsy2 | exact p32bbbbbhsy2 | exact p32bbbbhsy2 | exact p32bbbhsy2 | exact p32bbhsy2 | exact p32bhsy2 | exact p32hsy2 | exact hsy), (by first | omega | (simp only [List.length_append, List.length_cons, List.length_nil]; omega)), (by omega), (by omega), ?_⟩
          intro I32bbbo p32bbbbbbhsy2 p32bbbbbbbfr
          refine And.intro ⟨(zRb rfl), (zRb rfl), (by decide)⟩ (zdv (by omega) (fun q38bbb e38bbb => ?_))
          obtain rfl : q38bbb = 0 := (by omega)
          refine And.intro (zRb rfl) (zbt rfl ?_)
          refine hQ _ ?_ (fun c j h0 h1 => ((p32bbbbbbbfr c j h0 h1).trans ((p32bbbbbfr c j h0 h1).trans ((p32bbbfr c j h0 h1).trans ((p32bfr c j h0 h1).trans rfl)))))
          · first
            | rw [dNu_p1 (by omega)]
            | rw [dNu_p2 (by omega)]
            | rw [dNu_p3 (by omega)]
            | rw [dNu_p4 (by omega)]
            | rw [dNu_p5 (by omega)]
            refine zSx_e (by first | exact p32bbbbbbbbbbbbhsy2 | exact p32bbbbbbbbbbbhsy2 | exact p32bbbbbbbbbbhsy2 | exact p32bbbbbbbbbhsy2 | exact p32bbbbbbbbhsy2 | exact p32bbbbbbbhsy2 | exact p32bbbbbbhsy2 | exact p32bbbbbhsy2 | exact p32bbbbhsy2 | exact p32bbbhsy2 | exact p32bbhsy2 | exact p32bhsy2 | exact p32hsy2 | exact hsy) ?_
            try simp only [List.append_assoc, List.cons_append, List.nil_append]
            congr 1
            simp only [List.cons.injEq, and_true]
            repeat (first | omega | refine And.intro (by omega) ?_)
        · refine And.intro ⟨(by omega), (zRb rfl), (by decide)⟩ (zdv (by omega) (fun q4bbbb e4bbbb => ?_))
          refine And.intro ⟨(by omega), (zRb rfl)⟩ ⟨fun h7bbbb => ?_, (fun h7bbbb => False.elim (by omega))⟩
          refine And.intro (zRb rfl) (zbf rfl ?_)
          refine And.intro ⟨(by omega), (zRb rfl), (by decide)⟩ (zdv (by omega) (fun q27 e27 => ?_))
          refine And.intro ⟨(by omega), (zRb rfl), (by decide)⟩ (zdv (by omega) (fun q30 e30 => ?_))
          refine And.intro (zA_165 hS) ⟨_, sn_Y_sax.up (by decide), ?_⟩
          refine ⟨_, _, _, ((48 + q30) : Int), rfl, hS, hR, (by first | exact p32bbbbbbbbbbbbhsy2 | exact p32bbbbbbbbbbbhsy2 | exact p32bbbbbbbbbbhsy2 | exact p32bbbbbbbbbhsy2 | exact p32bbbbbbbbhsy2 | exact p32bbbbbbbhsy2 | exact p32bbbbbbhsy2 | exact p32bbbbbhsy2 | exact p32bbbbhsy2 | exact p32bbbhsy2 | exact p32bbhsy2 | exact p32bhsy2 | exact p32hsy2 | exact hsy), (by first | omega | (simp only [List.length_append, List.length_cons, List.length_nil]; omega)), (by omega), (by omega), ?_⟩
          intro I32o p32hsy2 p32bfr
          refine And.intro ⟨(zRb rfl), (zRb rfl), (by decide)⟩ (zdv (by omega) (fun q38 e38 => ?_))
          obtain rfl : q38 = 1000 := (by omega)
          refine And.intro (zRb rfl) (zbf rfl ?_)
          refine And.intro ⟨(by omega), (zRb rfl), (by decide)⟩ (zdv (by omega) (fun q27b e27b => ?_))
          refine And.intro ⟨(by omega), (zRb rfl), (by decide)⟩ (zdv (by omega) (fun q30b e30b => ?_))
          refine And.intro (zA_165 hS) ⟨_, sn_Y_sax.up (by decide), ?_⟩
          refine ⟨_, _, _, ((48 + q30b) : Int), rfl, hS, hR, (by first | exact p32bbbbbbbbbbbbhsy2 | exact p32bbbbbbbbbbbhsy2 | exact p32bbbbbbbbbbhsy2 | exact p32bbbbbbbbbhsy2 | exact p32bbbbbbbbhsy2 | exact p32bbbbbbbhsy2 | exact p32bbbbbbhsy2 | exact p32bbbbbhsy2 | exact p32bbbbhsy2 | exact p32bbbhsy2 | exact p32bbhsy2 | exact p32bhsy2 | exact p32hsy2 | exact hsy), (by first | omega | (simp only [List.length_append, List.length_cons, List.length_nil]; omega)), (by omega), (by omega), ?_⟩
          intro I32bo p32bbhsy2 p32bbbfr
          refine And.intro ⟨(zRb rfl), (zRb rfl), (by decide)⟩ (zdv (by omega) (fun q38b e38b => ?_))
          obtain rfl : q38b = 100 := (by omega)
          refine And.intro (zRb rfl) (zbf rfl ?_)
          refine And.intro ⟨(by omega), (zRb rfl), (by decide)⟩ (zdv (by omega) (fun q27bb e27bb => ?_))
          refine And.intro ⟨(by omega), (zRb rfl), (by decide)⟩ (zdv (by omega) (fun q30bb e30bb => ?_))
          refine And.intro (zA_165 hS) ⟨_, sn_Y_sax.up (by decide), ?_⟩
          refine ⟨_, _, _, ((48 + q30bb) : Int), rfl, hS, hR, (by first | exact p32bbbbbbbbbbbbhsy2 | exact p32bbbbbbbbbbbhsy2 | exact p32bbbbbbbbbbhsy2 | exact p32bbbbbbbbbhsy2 | exact p32bbbbbbbbhsy2 | exact p32bbbbbbbhsy2 | exact p32bbbbbbhsy2 | exact p32bbbbbhsy2 | exact p32bbbbhsy2 | exact p32bbbhsy2 | exact p32bbhsy2 | exact p32bhsy2 | exact p32hsy2 | exact hsy), (by first | omega | (simp only [List.length_append, List.length_cons, List.length_nil]; omega)), (by omega), (by omega), ?_⟩
          intro I32bbo p32bbbbhsy2 p32bbbbbfr
          refine And.intro ⟨(zRb rfl), (zRb rfl), (by decide)⟩ (zdv (by omega) (fun q38bb e38bb => ?_))
          obtain rfl : q38bb = 10 := (by omega)
          refine And.intro (zRb rfl) (zbf rfl ?_)
          refine And.intro ⟨(by omega), (zRb rfl), (by decide)⟩ (zdv (by omega) (fun q27bbb e27bbb => ?_))
          refine And.intro ⟨(by omega), (zRb rfl), (by decide)⟩ (zdv (by omega) (fun q30bbb e30bbb => ?_))
          refine And.intro (zA_165 hS) ⟨_, sn_Y_sax.up (by decide), ?_⟩
          refine ⟨_, _, _, ((48 + q30bbb) : Int), rfl, hS, hR, (by first | exact p32bbbbbbbbbbbbhsy2 | exact p32bbbbbbbbbbbhsy2 | exact p32bbbbbbbbbbhsy2 | exact p32bbbbbbbbbhsy2 | exact p32bbbbbbbbhsy2 | exact p32bbbbbbbhsy2 | exact p32bbbbbbhsy2 | exact p32bbbbbhsy2 | exact p32bbbbhsy2 | exact p32bbbhsy2 | exact p32bbhsy2 | exact p32bhsy2 | exact p32hsy2 | exact hsy), (by first | omega | (simp only [List.length_append, List.length_cons, List.length_nil]; omega)), (by omega), (by omega), ?_⟩
          intro I32bbbo p32bbbbbbhsy2 p32bbbbbbbfr
          refine And.intro ⟨(zRb rfl), (zRb rfl), (by decide)⟩ (zdv (by omega) (fun q38bbb e38bbb => ?_))
          obtain rfl : q38bbb = 1 := (by omega)
          refine And.intro (zRb rfl) (zbf rfl ?_)
          refine And.intro ⟨(by omega), (zRb rfl), (by decide)⟩ (zdv (by omega) (fun q27bbbb e27bbbb => ?_))
          refine And.intro ⟨(by omega), (zRb rfl), (by decide)⟩ (zdv (by omega) (fun q30bbbb e30bbbb => ?_))
          refine And.intro (zA_165 hS) ⟨_, sn_Y_sax.up (by decide), ?_⟩
          refine ⟨_, _, _, ((48 + q30bbbb) : Int), rfl, hS, hR, (by first | exact p32bbbbbbbbbbbbhsy2 | exact p32bbbbbbbbbbbhsy2 | exact p32bbbbbbbbbbhsy2 | exact p32bbbbbbbbbhsy2 | exact p32bbbbbbbbhsy2 | exact p32bbbbbbbhsy2 | exact p32bbbbbbhsy2 | exact p32bbbbbhsy2 | exact p32bbbbhsy2 | exact p32bbbhsy2 | exact p32bbhsy2 | exact p32bhsy2 | exact p32hsy2 | exact hsy), (by first | omega | (simp only [List.length_append, List.length_cons, List.length_nil]; omega)), (by omega), (by omega), ?_⟩
          intro I32bbbbo p32bbbbbbbbhsy2 p32bbbbbbbbbfr
          refine And.intro ⟨(zRb rfl), (zRb rfl), (by decide)⟩ (zdv (by omega) (fun q38bbbb e38bbbb => ?_))
          obtain rfl : q38bbbb = 0 := (by omega)
          refine And.intro (zRb rfl) (zbt rfl ?_)
          refine hQ _ ?_ (fun c j h0 h1 => ((p32bbbbbbbbbfr c j h0 h1).trans ((p32bbbbbbbfr c j h0 h1).trans ((p32bbbbbfr c j h0 h1).trans ((p32bbbfr c j h0 h1).trans ((p32bfr c j h0 h1).trans rfl))))))
          · first
            | rw [dNu_p1 (by omega)]
            | rw [dNu_p2 (by omega)]
            | rw [dNu_p3 (by omega)]
            | rw [dNu_p4 (by omega)]
            | rw [dNu_p5 (by omega)]
            refine zSx_e (by first | exact p32bbbbbbbbbbbbhsy2 | exact p32bbbbbbbbbbbhsy2 | exact p32bbbbbbbbbbhsy2 | exact p32bbbbbbbbbhsy2 | exact p32bbbbbbbbhsy2 | exact p32bbbbbbbhsy2 | exact p32bbbbbbhsy2 | exact p32bbbbbhsy2 | exact p32bbbbhsy2 | exact p32bbbhsy2 | exact p32bbhsy2 | exact p32bhsy2 | exact p32hsy2 | exact hsy) ?_
            try simp only [List.append_assoc, List.cons_append, List.nil_append]
            congr 1
            simp only [List.cons.injEq, and_true]
            repeat (first | omega | refine And.intro (by omega) ?_))
def T_Y_stx : ZT := fun args I L R S Q => ∃ (a : Int) (m : Int) (t : List Int), args = [zvr 165] ∧ (zSh S) ∧ (zRs R) ∧ (zSx a m t I) ∧ (t.length ≤ 1900) ∧ (0 ≤ m ∧ m ≤ 2147483647) ∧ ∀ (I' : ZI), (zSx a m (t ++ [84, 48]) I') → (∀ c j : Nat, ¬ (c = 165 ∧ j = 45) → ¬ (c = 165 ∧ j = 46) → I' c j = I c j) → Q none I' L R S
theorem sn_Y_stx : ZSnd 2 21 67 T_Y_stx := ZSnd.of (zT21_67 1) (by
  rintro args I L R S Q hz ⟨a, m, t, rfl, hS, hR, hsy, ht8, hmb, hQ⟩
  refine And.intro rfl ?_
  refine And.intro (zA_165 hS) ⟨_, sn_Y_sax.up (by decide), ?_⟩
  refine ⟨_, _, _, (84 : Int), rfl, hS, hR, hsy, (by first | omega | (simp only [List.length_append, List.length_cons, List.length_nil]; omega)), (by omega), (by omega), ?_⟩
  intro I3o p3hsy2 p3bfr
  refine And.intro (zA_165 hS) ⟨_, sn_Y_sax.up (by decide), ?_⟩
  refine ⟨_, _, _, (48 : Int), rfl, hS, hR, p3hsy2, (by first | omega | (simp only [List.length_append, List.length_cons, List.length_nil]; omega)), (by omega), (by omega), ?_⟩
  intro I9o p9hsy2 p9bfr
  refine hQ _ (zSx_e p9hsy2 (by rw [List.append_assoc]; rfl)) (fun c j h0 h1 => ((p9bfr c j h0 h1).trans ((p3bfr c j h0 h1).trans rfl))))
def T_Y_sdx : ZT := fun args I L R S Q => ∃ (a : Int) (m : Int) (w : List CuR) (l : Int), args = [zvr 165, zvi l] ∧ (zSh S) ∧ (zRs R) ∧ (I 165 44 = m) ∧ (I 165 46 = a) ∧ (0 ≤ m ∧ m ≤ 2147483647) ∧ (0 ≤ l ∧ l ≤ 6) ∧ (zMh w I) ∧ (∀ p : Nat, p < cuHc w → I 211 p = cuOr w p) ∧ (cuHc w ≤ 20) ∧ (cuG w) ∧ ∀ (I' : ZI), (zSx a m (dTx w l) I') → (∀ c j : Nat, ¬ (c = 165 ∧ j = 45) → ¬ (c = 165 ∧ j = 46) → I' c j = I c j) → Q none I' L R S
theorem sn_Y_sdx : ZSnd 3 21 65 T_Y_sdx := ZSnd.loops (zT21_65 2) (by
  rintro args I L R S Q hz ⟨a, m, w, l, rfl, hS, hR, h44, h46, hmb, hl, hMh, hord, hc20, hG, hQ⟩
  obtain ⟨hm35, hmm⟩ := id hMh
  have hd1 := dNu_l (v := l)
  have hd2 := dNu_l (v := l + 1)
  have hd3 := dNu_l (v := 300)
  refine ⟨[104], fun nM tM lsM stM I1 L1 R1 S1 => match tM with
      | 104 => ∃ (n : Nat) (u : Int), nM = ((61 - n), 0, 0) ∧ lsM = [some (zvr (165)), some (zvi (l)), some (zvi (u)), some (zvi (n)), none] ∧ stM = [] ∧ L1 = L ∧ R1 = R ∧ S1 = S ∧ (n ≤ cuHc w) ∧ ((u = 0 ∧ zct (dIs w l) n = 0) ∨ (u = 1 ∧ zct (dIs w l) n ≠ 0)) ∧ (zSx a m (dHn w l n) I1) ∧ (∀ c j : Nat, ¬ (c = 165 ∧ j = 45) → ¬ (c = 165 ∧ j = 46) → I1 c j = I c j)
      | _ => False, rfl, ?_, ⟨?_, True.intro⟩⟩
  · refine And.intro (zA_165 hS) ⟨_, (zWi (zRb rfl)), ?_⟩
    refine And.intro (zA_165 hS) ⟨_, sn_Y_sax.up (by decide), ?_⟩
    refine ⟨_, _, _, (77 : Int), rfl, hS, hR, (show zSx a m [] _ from ⟨zxs (by decide) h44, zxe, by refine (zxs (by decide) h46).trans ?_; rw [if_neg (by show ¬ (0 ≤ m ∧ m < ((0 : Nat) : Int)); omega)]⟩), (by first | omega | (simp only [List.length_append, List.length_cons, List.length_nil]; omega)), (by omega), (by omega), ?_⟩
    intro I8o p8hsy2 p8bfr
    refine And.intro (zA_165 hS) ⟨_, sn_Y_sax.up (by decide), ?_⟩
    refine ⟨_, _, _, (52 : Int), rfl, hS, hR, p8hsy2, (by first | omega | (simp only [List.length_append, List.length_cons, List.length_nil]; omega)), (by omega), (by omega), ?_⟩
    intro I14o p14hsy2 p14bfr
    refine And.intro (zA_165 hS) ⟨_, sn_Y_sax.up (by decide), ?_⟩
    refine ⟨_, _, _, (56 : Int), rfl, hS, hR, p14hsy2, (by first | omega | (simp only [List.length_append, List.length_cons, List.length_nil]; omega)), (by omega), (by omega), ?_⟩
    intro I20o p20hsy2 p20bfr
    refine And.intro (zA_165 hS) ⟨_, sn_Y_sax.up (by decide), ?_⟩
    refine ⟨_, _, _, (10 : Int), rfl, hS, hR, p20hsy2, (by first | omega | (simp only [List.length_append, List.length_cons, List.length_nil]; omega)), (by omega), (by omega), ?_⟩
    intro I26o p26hsy2 p26bfr
    refine And.intro (zA_165 hS) ⟨_, sn_Y_sax.up (by decide), ?_⟩
    refine ⟨_, _, _, (76 : Int), rfl, hS, hR, p26hsy2, (by first | omega | (simp only [List.length_append, List.length_cons, List.length_nil]; omega)), (by omega), (by omega), ?_⟩
    intro I32o p32hsy2 p32bfr
    refine And.intro (zA_165 hS) ⟨_, sn_Y_snx.up (by decide), ?_⟩
    refine ⟨_, _, _, (l : Int), rfl, hS, hR, p32hsy2, (by first | omega | (simp only [List.length_append, List.length_cons, List.length_nil]; omega)), (by omega), (by omega), ?_⟩
    intro I37o p37hsy2 p37bfr
    refine And.intro (zA_165 hS) ⟨_, sn_Y_sax.up (by decide), ?_⟩
    refine ⟨_, _, _, (44 : Int), rfl, hS, hR, p37hsy2, (by first | omega | (simp only [List.length_append, List.length_cons, List.length_nil]; omega)), (by omega), (by omega), ?_⟩
    intro I43o p43hsy2 p43bfr
    refine And.intro (zA_165 hS) ⟨_, sn_Y_snx.up (by decide), ?_⟩
    refine ⟨_, _, _, ((l + 1) : Int), rfl, hS, hR, p43hsy2, (by first | omega | (simp only [List.length_append, List.length_cons, List.length_nil]; omega)), (by omega), (by omega), ?_⟩
    intro I50o p50hsy2 p50bfr
    refine And.intro (zA_165 hS) ⟨_, sn_Y_sax.up (by decide), ?_⟩
    refine ⟨_, _, _, (10 : Int), rfl, hS, hR, p50hsy2, (by first | omega | (simp only [List.length_append, List.length_cons, List.length_nil]; omega)), (by omega), (by omega), ?_⟩
    intro I56o p56hsy2 p56bfr
    refine And.intro (zA_165 hS) ⟨_, sn_Y_stx.up (by decide), ?_⟩
    refine ⟨_, _, _, rfl, hS, hR, p56hsy2, (by first | omega | (simp only [List.length_append, List.length_cons, List.length_nil]; omega)), (by omega), ?_⟩
    intro I60o p60hsy2 p60bfr
    refine And.intro (zA_165 hS) ⟨_, sn_Y_sax.up (by decide), ?_⟩
    refine ⟨_, _, _, (67 : Int), rfl, hS, hR, p60hsy2, (by first | omega | (simp only [List.length_append, List.length_cons, List.length_nil]; omega)), (by omega), (by omega), ?_⟩
    intro I66o p66hsy2 p66bfr
    refine And.intro (zA_165 hS) ⟨_, sn_Y_snx.up (by decide), ?_⟩
    refine ⟨_, _, _, (300 : Int), rfl, hS, hR, p66hsy2, (by first | omega | (simp only [List.length_append, List.length_cons, List.length_nil]; omega)), (by omega), (by omega), ?_⟩
    intro I73o p73hsy2 p73bfr
    refine And.intro (zA_165 hS) ⟨_, sn_Y_sax.up (by decide), ?_⟩
    refine ⟨_, _, _, (80 : Int), rfl, hS, hR, p73hsy2, (by first | omega | (simp only [List.length_append, List.length_cons, List.length_nil]; omega)), (by omega), (by omega), ?_⟩
    intro I79o p79hsy2 p79bfr
    refine And.intro (zA_165 hS) ⟨_, sn_Y_sax.up (by decide), ?_⟩
    refine ⟨_, _, _, (10 : Int), rfl, hS, hR, p79hsy2, (by first | omega | (simp only [List.length_append, List.length_cons, List.length_nil]; omega)), (by omega), (by omega), ?_⟩
    intro I85o p85hsy2 p85bfr
    refine And.intro (zA_165 hS) ⟨_, sn_Y_sax.up (by decide), ?_⟩
    refine ⟨_, _, _, (37 : Int), rfl, hS, hR, p85hsy2, (by first | omega | (simp only [List.length_append, List.length_cons, List.length_nil]; omega)), (by omega), (by omega), ?_⟩
    intro I91o p91hsy2 p91bfr
    refine And.intro (zA_165 hS) ⟨_, sn_Y_sax.up (by decide), ?_⟩
    refine ⟨_, _, _, (10 : Int), rfl, hS, hR, p91hsy2, (by first | omega | (simp only [List.length_append, List.length_cons, List.length_nil]; omega)), (by omega), (by omega), ?_⟩
    intro I97o p97hsy2 p97bfr
    refine ⟨((61 - (0 : Nat)), 0, 0), [some (zvr (165)), some (zvi (l)), some (zvi ((0 : Int))), some (zvi ((0 : Nat))), none], ⟨rfl, rfl, rfl, rfl, rfl⟩, 0, 0, rfl, rfl, rfl, rfl, rfl, rfl, (by omega), (by show (0 = 0 ∧ zct (dIs w l) 0 = 0) ∨ _; exact Or.inl ⟨rfl, rfl⟩), ?_, (fun c j h0 h1 => ((p97bfr c j h0 h1).trans ((p91bfr c j h0 h1).trans ((p85bfr c j h0 h1).trans ((p79bfr c j h0 h1).trans ((p73bfr c j h0 h1).trans ((p66bfr c j h0 h1).trans ((p60bfr c j h0 h1).trans ((p56bfr c j h0 h1).trans ((p50bfr c j h0 h1).trans ((p43bfr c j h0 h1).trans ((p37bfr c j h0 h1).trans ((p32bfr c j h0 h1).trans ((p26bfr c j h0 h1).trans ((p20bfr c j h0 h1).trans ((p14bfr c j h0 h1).trans ((p8bfr c j h0 h1).trans (zxcj h0 rfl))))))))))))))))))⟩
    · refine zSx_e p97hsy2 ?_
      rw [dHn_0]
      unfold dH0
      rw [dWd_L.1, dWd_L.2.1, dWd_L.2.2.1, dNu_300]
      simp only [List.append_assoc, List.cons_append, List.nil_append]
  · rintro nM lsM stM I1 L1 R1 S1 hz1 ⟨n, u, rfl, rfl, rfl, rfl, rfl, rfl, hn, hu, hM, fr⟩
    have hln := dHn_l (w := w) (l := l) (n := n)
    have hob := fun h => cuOr_b (w := w) (i := n) h
    have hvb := fun (h : (cuOr w n).toNat < cuHc w) => cuHv_b hG h
    have hdx := dNu_l (v := dHx w n)
    have hdy := dNu_l (v := dHy w n)
    refine And.intro (zA_165 hS) (zrd (v := (cuHc w)) ((fr 165 35 (by omega) (by omega)).trans hm35) ?_)
    refine And.intro ⟨(by omega), (by omega)⟩ ⟨fun h109 => ?_, fun h109 => ?_⟩
    · refine And.intro (zA_165 hS) ⟨_, sn_Y_sax.up (by decide), ?_⟩
      refine ⟨_, _, _, (77 : Int), rfl, hS, hR, hM, (by omega), (by omega), (by omega), ?_⟩
      intro I207o p207hsy2 p207bfr
      refine And.intro (zA_165 hS) ⟨_, sn_Y_sax.up (by decide), ?_⟩
      refine ⟨_, _, _, (51 : Int), rfl, hS, hR, p207hsy2, (by first | omega | (simp only [List.length_append, List.length_cons, List.length_nil]; omega)), (by omega), (by omega), ?_⟩
      intro I213o p213hsy2 p213bfr
      refine And.intro (zA_165 hS) ⟨_, sn_Y_sax.up (by decide), ?_⟩
      refine ⟨_, _, _, (48 : Int), rfl, hS, hR, p213hsy2, (by first | omega | (simp only [List.length_append, List.length_cons, List.length_nil]; omega)), (by omega), (by omega), ?_⟩
      intro I219o p219hsy2 p219bfr
      refine And.intro (zA_165 hS) ⟨_, sn_Y_sax.up (by decide), ?_⟩
      refine ⟨_, _, _, (10 : Int), rfl, hS, hR, p219hsy2, (by first | omega | (simp only [List.length_append, List.length_cons, List.length_nil]; omega)), (by omega), (by omega), ?_⟩
      intro I225o p225hsy2 p225bfr
      refine hQ _ ?_ (fun c j h0 h1 => ((p225bfr c j h0 h1).trans ((p219bfr c j h0 h1).trans ((p213bfr c j h0 h1).trans ((p207bfr c j h0 h1).trans ((fr c j h0 h1).trans rfl))))))
      · refine zSx_e p225hsy2 ?_
        have e9 : n = cuHc w := by omega
        subst e9
        rw [← dHn_e, dWd_L.2.2.2.2.2.2.2]
        simp only [List.append_assoc, List.cons_append, List.nil_append]
    · refine And.intro (zA_165 hS) (zrdR (v := some 211) (zR_165_39 hR) ?_)
      refine And.intro (zP_211 hS (by omega) (by omega)) (fun v117 e117 r117 => ?_)
      have f117 : v117 = cuOr w n := (by refine Eq.trans e117 ?_; repeat (first | exact ((fr 211 _ (by omega) (by omega)).trans ((congrArg (I 211) (show _ = n by omega)).trans (hord n (by omega)))) | refine (p174bfr _ _ (by omega) (by omega)).trans ?_ | refine (p168bfr _ _ (by omega) (by omega)).trans ?_ | refine (p153bfr _ _ (by omega) (by omega)).trans ?_ | refine (p145bfr _ _ (by omega) (by omega)).trans ?_ | refine (p139bfr _ _ (by omega) (by omega)).trans ?_))
      have f117b : 0 ≤ v117 ∧ v117 + 1 ≤ cuHc w := (by have z := hob (by omega); omega)
      refine And.intro (zA_165 hS) (zrdR (v := some 208) (zR_165_36 hR) ?_)
      refine And.intro (zP_208 hS (by omega) (by omega)) (fun v126 e126 r126 => ?_)
      have f126 : v126 = cuHv w (cuOr w n).toNat / 256 := (by refine Eq.trans e126 ?_; repeat (first | exact ((fr 208 _ (by omega) (by omega)).trans ((congrArg (I 208) (show _ = (cuOr w n).toNat by omega)).trans (hmm (cuOr w n).toNat (by omega)).1)) | refine (p174bfr _ _ (by omega) (by omega)).trans ?_ | refine (p168bfr _ _ (by omega) (by omega)).trans ?_ | refine (p153bfr _ _ (by omega) (by omega)).trans ?_ | refine (p145bfr _ _ (by omega) (by omega)).trans ?_ | refine (p139bfr _ _ (by omega) (by omega)).trans ?_))
      refine And.intro ⟨r126, (by omega)⟩ ⟨fun h128 => ?_, fun h128 => ?_⟩
      · refine And.intro (by omega) ⟨fun h135 => ?_, fun h135 => ?_⟩
        · refine And.intro (zA_165 hS) ⟨_, sn_Y_sax.up (by decide), ?_⟩
          refine ⟨_, _, _, (88 : Int), rfl, hS, hR, (by first | exact p145hsy2 | exact hM), (by first | omega | (simp only [List.length_append, List.length_cons, List.length_nil]; omega)), (by omega), (by omega), ?_⟩
          intro I153o p153hsy2 p153bfr
          refine And.intro (zA_165 hS) (zrdR (v := some 209) (zR_165_37 hR) ?_)
          refine And.intro (zP_209 hS (by omega) (by omega)) (fun v166 e166 r166 => ?_)
          have f166 : v166 = cuHv w (cuOr w n).toNat % 16 := (by refine Eq.trans e166 ?_; repeat (first | exact ((fr 209 _ (by omega) (by omega)).trans ((congrArg (I 209) (show _ = (cuOr w n).toNat by omega)).trans (hmm (cuOr w n).toNat (by omega)).2.1)) | refine (p174bfr _ _ (by omega) (by omega)).trans ?_ | refine (p168bfr _ _ (by omega) (by omega)).trans ?_ | refine (p153bfr _ _ (by omega) (by omega)).trans ?_ | refine (p145bfr _ _ (by omega) (by omega)).trans ?_ | refine (p139bfr _ _ (by omega) (by omega)).trans ?_))
          have f166b : 0 ≤ v166 ∧ v166 ≤ 15 := (by omega)
          refine And.intro (zA_165 hS) ⟨_, sn_Y_snx.up (by decide), ?_⟩
          refine ⟨_, _, _, ((1000 * v166) : Int), rfl, hS, hR, p153hsy2, (by first | omega | (simp only [List.length_append, List.length_cons, List.length_nil]; omega)), (by omega), (by omega), ?_⟩
          intro I168o p168hsy2 p168bfr
          have g168 : (dNu (1000 * v166)).length ≤ 5 := dNu_l
          refine And.intro (zA_165 hS) ⟨_, sn_Y_sax.up (by decide), ?_⟩
          refine ⟨_, _, _, (89 : Int), rfl, hS, hR, p168hsy2, (by first | omega | (simp only [List.length_append, List.length_cons, List.length_nil]; omega)), (by omega), (by omega), ?_⟩
          intro I174o p174hsy2 p174bfr
          refine And.intro (zA_165 hS) (zrdR (v := some 210) (zR_165_38 hR) ?_)
          refine And.intro (zP_210 hS (by omega) (by omega)) (fun v187 e187 r187 => ?_)
          have f187 : v187 = cuHv w (cuOr w n).toNat / 16 % 16 := (by refine Eq.trans e187 ?_; repeat (first | exact ((fr 210 _ (by omega) (by omega)).trans ((congrArg (I 210) (show _ = (cuOr w n).toNat by omega)).trans (hmm (cuOr w n).toNat (by omega)).2.2)) | refine (p174bfr _ _ (by omega) (by omega)).trans ?_ | refine (p168bfr _ _ (by omega) (by omega)).trans ?_ | refine (p153bfr _ _ (by omega) (by omega)).trans ?_ | refine (p145bfr _ _ (by omega) (by omega)).trans ?_ | refine (p139bfr _ _ (by omega) (by omega)).trans ?_))
          have f187b : 0 ≤ v187 ∧ v187 ≤ 15 := (by omega)
          refine And.intro (zA_165 hS) ⟨_, sn_Y_snx.up (by decide), ?_⟩
          refine ⟨_, _, _, ((1000 * v187) : Int), rfl, hS, hR, p174hsy2, (by first | omega | (simp only [List.length_append, List.length_cons, List.length_nil]; omega)), (by omega), (by omega), ?_⟩
          intro I189o p189hsy2 p189bfr
          have g189 : (dNu (1000 * v187)).length ≤ 5 := dNu_l
          refine And.intro (zA_165 hS) ⟨_, sn_Y_sax.up (by decide), ?_⟩
          refine ⟨_, _, _, (10 : Int), rfl, hS, hR, p189hsy2, (by first | omega | (simp only [List.length_append, List.length_cons, List.length_nil]; omega)), (by omega), (by omega), ?_⟩
          intro I195o p195hsy2 p195bfr
          refine ⟨((61 - (n + 1)), 0, 0), zlt6 (by omega), [some (zvr (165)), some (zvi (l)), some (zvi ((1 : Int))), some (zvi ((n + 1))), none], ⟨rfl, rfl, rfl, rfl, rfl⟩, (n + 1), 1, rfl, rfl, rfl, rfl, rfl, rfl, (by omega), (by first | (rw [zct_t (show dIs w l n by unfold dIs; omega)]; omega) | (rw [zct_f (show ¬ dIs w l n by unfold dIs; omega)]; exact hu)), ?_, (fun c j h0 h1 => ((p195bfr c j h0 h1).trans ((p189bfr c j h0 h1).trans ((p174bfr c j h0 h1).trans ((p168bfr c j h0 h1).trans ((p153bfr c j h0 h1).trans ((fr c j h0 h1).trans rfl)))))))⟩
          · first
            | (have hI : dIs w l n := by unfold dIs; omega
               first
               | (refine zSx_e p195hsy2 ?_
                  rw [dHn_1 hI (by omega), dHl_y hI, dWd_L.2.2.2.1, dWd_L.2.2.2.2.1, dWd_L.2.2.2.2.2.1, dWd_L.2.2.2.2.2.2.1, show dHx w n = 1000 * v166 by unfold dHx; omega, show dHy w n = 1000 * v187 by unfold dHy; omega]
                  simp only [List.append_assoc, List.cons_append, List.nil_append])
               | (refine zSx_e p195hsy2 ?_
                  rw [dHn_2 hI (by omega), dHl_y hI, dWd_L.2.2.2.2.1, dWd_L.2.2.2.2.2.1, dWd_L.2.2.2.2.2.2.1, show dHx w n = 1000 * v166 by unfold dHx; omega, show dHy w n = 1000 * v187 by unfold dHy; omega]
                  simp only [List.append_assoc, List.cons_append, List.nil_append]))
            | exact zSx_e hM (dHn_n (by unfold dIs; omega)).symm
        · refine And.intro (zA_165 hS) ⟨_, sn_Y_stx.up (by decide), ?_⟩
          refine ⟨_, _, _, rfl, hS, hR, hM, (by omega), (by omega), ?_⟩
          intro I139o p139hsy2 p139bfr
          refine And.intro (zA_165 hS) ⟨_, sn_Y_sax.up (by decide), ?_⟩
          refine ⟨_, _, _, (10 : Int), rfl, hS, hR, p139hsy2, (by first | omega | (simp only [List.length_append, List.length_cons, List.length_nil]; omega)), (by omega), (by omega), ?_⟩
          intro I145o p145hsy2 p145bfr
          refine And.intro (zA_165 hS) ⟨_, sn_Y_sax.up (by decide), ?_⟩
          refine ⟨_, _, _, (88 : Int), rfl, hS, hR, (by first | exact p145hsy2 | exact hM), (by first | omega | (simp only [List.length_append, List.length_cons, List.length_nil]; omega)), (by omega), (by omega), ?_⟩
          intro I153o p153hsy2 p153bfr
          refine And.intro (zA_165 hS) (zrdR (v := some 209) (zR_165_37 hR) ?_)
          refine And.intro (zP_209 hS (by omega) (by omega)) (fun v166 e166 r166 => ?_)
          have f166 : v166 = cuHv w (cuOr w n).toNat % 16 := (by refine Eq.trans e166 ?_; repeat (first | exact ((fr 209 _ (by omega) (by omega)).trans ((congrArg (I 209) (show _ = (cuOr w n).toNat by omega)).trans (hmm (cuOr w n).toNat (by omega)).2.1)) | refine (p174bfr _ _ (by omega) (by omega)).trans ?_ | refine (p168bfr _ _ (by omega) (by omega)).trans ?_ | refine (p153bfr _ _ (by omega) (by omega)).trans ?_ | refine (p145bfr _ _ (by omega) (by omega)).trans ?_ | refine (p139bfr _ _ (by omega) (by omega)).trans ?_))
          have f166b : 0 ≤ v166 ∧ v166 ≤ 15 := (by omega)
          refine And.intro (zA_165 hS) ⟨_, sn_Y_snx.up (by decide), ?_⟩
          refine ⟨_, _, _, ((1000 * v166) : Int), rfl, hS, hR, p153hsy2, (by first | omega | (simp only [List.length_append, List.length_cons, List.length_nil]; omega)), (by omega), (by omega), ?_⟩
          intro I168o p168hsy2 p168bfr
          have g168 : (dNu (1000 * v166)).length ≤ 5 := dNu_l
          refine And.intro (zA_165 hS) ⟨_, sn_Y_sax.up (by decide), ?_⟩
          refine ⟨_, _, _, (89 : Int), rfl, hS, hR, p168hsy2, (by first | omega | (simp only [List.length_append, List.length_cons, List.length_nil]; omega)), (by omega), (by omega), ?_⟩
          intro I174o p174hsy2 p174bfr
          refine And.intro (zA_165 hS) (zrdR (v := some 210) (zR_165_38 hR) ?_)
          refine And.intro (zP_210 hS (by omega) (by omega)) (fun v187 e187 r187 => ?_)
          have f187 : v187 = cuHv w (cuOr w n).toNat / 16 % 16 := (by refine Eq.trans e187 ?_; repeat (first | exact ((fr 210 _ (by omega) (by omega)).trans ((congrArg (I 210) (show _ = (cuOr w n).toNat by omega)).trans (hmm (cuOr w n).toNat (by omega)).2.2)) | refine (p174bfr _ _ (by omega) (by omega)).trans ?_ | refine (p168bfr _ _ (by omega) (by omega)).trans ?_ | refine (p153bfr _ _ (by omega) (by omega)).trans ?_ | refine (p145bfr _ _ (by omega) (by omega)).trans ?_ | refine (p139bfr _ _ (by omega) (by omega)).trans ?_))
          have f187b : 0 ≤ v187 ∧ v187 ≤ 15 := (by omega)
          refine And.intro (zA_165 hS) ⟨_, sn_Y_snx.up (by decide), ?_⟩
          refine ⟨_, _, _, ((1000 * v187) : Int), rfl, hS, hR, p174hsy2, (by first | omega | (simp only [List.length_append, List.length_cons, List.length_nil]; omega)), (by omega), (by omega), ?_⟩
          intro I189o p189hsy2 p189bfr
          have g189 : (dNu (1000 * v187)).length ≤ 5 := dNu_l
          refine And.intro (zA_165 hS) ⟨_, sn_Y_sax.up (by decide), ?_⟩
          refine ⟨_, _, _, (10 : Int), rfl, hS, hR, p189hsy2, (by first | omega | (simp only [List.length_append, List.length_cons, List.length_nil]; omega)), (by omega), (by omega), ?_⟩
          intro I195o p195hsy2 p195bfr
          refine ⟨((61 - (n + 1)), 0, 0), zlt6 (by omega), [some (zvr (165)), some (zvi (l)), some (zvi ((1 : Int))), some (zvi ((n + 1))), none], ⟨rfl, rfl, rfl, rfl, rfl⟩, (n + 1), 1, rfl, rfl, rfl, rfl, rfl, rfl, (by omega), (by first | (rw [zct_t (show dIs w l n by unfold dIs; omega)]; omega) | (rw [zct_f (show ¬ dIs w l n by unfold dIs; omega)]; exact hu)), ?_, (fun c j h0 h1 => ((p195bfr c j h0 h1).trans ((p189bfr c j h0 h1).trans ((p174bfr c j h0 h1).trans ((p168bfr c j h0 h1).trans ((p153bfr c j h0 h1).trans ((p145bfr c j h0 h1).trans ((p139bfr c j h0 h1).trans ((fr c j h0 h1).trans rfl)))))))))⟩
          · first
            | (have hI : dIs w l n := by unfold dIs; omega
               first
               | (refine zSx_e p195hsy2 ?_
                  rw [dHn_1 hI (by omega), dHl_y hI, dWd_L.2.2.2.1, dWd_L.2.2.2.2.1, dWd_L.2.2.2.2.2.1, dWd_L.2.2.2.2.2.2.1, show dHx w n = 1000 * v166 by unfold dHx; omega, show dHy w n = 1000 * v187 by unfold dHy; omega]
                  simp only [List.append_assoc, List.cons_append, List.nil_append])
               | (refine zSx_e p195hsy2 ?_
                  rw [dHn_2 hI (by omega), dHl_y hI, dWd_L.2.2.2.2.1, dWd_L.2.2.2.2.2.1, dWd_L.2.2.2.2.2.2.1, show dHx w n = 1000 * v166 by unfold dHx; omega, show dHy w n = 1000 * v187 by unfold dHy; omega]
                  simp only [List.append_assoc, List.cons_append, List.nil_append]))
            | exact zSx_e hM (dHn_n (by unfold dIs; omega)).symm
      · refine ⟨((61 - (n + 1)), 0, 0), zlt6 (by omega), [some (zvr (165)), some (zvi (l)), some (zvi (u)), some (zvi ((n + 1))), none], ⟨rfl, rfl, rfl, rfl, rfl⟩, (n + 1), u, rfl, rfl, rfl, rfl, rfl, rfl, (by omega), (by first | (rw [zct_t (show dIs w l n by unfold dIs; omega)]; omega) | (rw [zct_f (show ¬ dIs w l n by unfold dIs; omega)]; exact hu)), ?_, (fun c j h0 h1 => ((fr c j h0 h1).trans rfl))⟩
        · first
          | (have hI : dIs w l n := by unfold dIs; omega
             first
             | (refine zSx_e p195hsy2 ?_
                rw [dHn_1 hI (by omega), dHl_y hI, dWd_L.2.2.2.1, dWd_L.2.2.2.2.1, dWd_L.2.2.2.2.2.1, dWd_L.2.2.2.2.2.2.1, show dHx w n = 1000 * v166 by unfold dHx; omega, show dHy w n = 1000 * v187 by unfold dHy; omega]
                simp only [List.append_assoc, List.cons_append, List.nil_append])
             | (refine zSx_e p195hsy2 ?_
                rw [dHn_2 hI (by omega), dHl_y hI, dWd_L.2.2.2.2.1, dWd_L.2.2.2.2.2.1, dWd_L.2.2.2.2.2.2.1, show dHx w n = 1000 * v166 by unfold dHx; omega, show dHy w n = 1000 * v187 by unfold dHy; omega]
                simp only [List.append_assoc, List.cons_append, List.nil_append]))
          | exact zSx_e hM (dHn_n (by unfold dIs; omega)).symm)
