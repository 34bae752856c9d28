/-! um -/
def T_G_uni : ZT := fun args I L R S Q => ∃ (w : List Int) (u : Int), args = [zvr 234, zvi u] ∧ (zSh S) ∧ (zRs R) ∧ (zTx w.length (tC w) I) ∧ (0 ≤ u ∧ u ≤ 255) ∧ ∀ (v : Int) (I' : ZI), (v = 0 ∨ v = 1) → (zTx (scU w u).length (tC (scU w u)) I') → (∀ c j : Nat, ¬ (c = 234 ∧ j = 0) → ¬ (c = 234 ∧ j = 1) → ¬ c = 235 → I' c j = I c j) → Q (some (zvi (v))) I' L R S
theorem sn_G_uni : ZSnd 1 12 54 T_G_uni := ZSnd.of (zT12_54 0) (by
  rintro args I L R S Q hz ⟨w, u, rfl, hS, hR, hX, hu, hQ⟩
  obtain ⟨hx1, hx2, hx3⟩ := id hX
  have hx4 := hx2.1
  refine And.intro rfl ?_
  refine And.intro (zA_234 hS) ⟨_, (zWi (zRb rfl)), ?_⟩
  refine And.intro ⟨(by omega), (zRb rfl)⟩ ⟨fun h8 => ?_, fun h8 => ?_⟩
  · refine And.intro (zA_234 hS) (zrd (v := (w.length)) hx1 ?_)
    refine And.intro ⟨(by omega), (zRb rfl)⟩ ⟨fun h30 => ?_, fun h30 => ?_⟩
    · refine And.intro (zA_234 hS) (zrdR (v := some 235) (zR_234_2 hR) ?_)
      refine And.intro (zA_234 hS) (zrd (v := (w.length)) hx1 ?_)
      refine And.intro ⟨(zx0 rfl), (zP_235 hS (by omega) (by omega))⟩ ⟨_, (zWi (by omega)), ?_⟩
      refine And.intro (zA_234 hS) (zrd (v := (w.length)) hx1 ?_)
      refine And.intro (zA_234 hS) ⟨_, (zWi (by omega)), ?_⟩
      refine And.intro (Or.inr rfl) ?_
      refine hQ _ _ (by omega) (zTx_1 hX (by omega) (by omega) ((show _ = (((w.length) + 1) : Int) from rfl).trans (by omega)) (zxu (by decide) (zxe' (by omega))) (fun j h => zxu (by decide) (zxcj (by omega) (zxu (by decide) rfl)))) (fun c j h0 h1 h2 => (zxcj h1 (zxu h2 (zxcj h0 rfl))))
    · refine And.intro (Or.inl rfl) ?_
      refine hQ _ _ (by omega) (zTx_0 hX (by omega) (fun c j h => (zxcj (by omega) rfl))) (fun c j h0 h1 h2 => (zxcj h0 rfl))
  · refine And.intro ⟨(by omega), (zRb rfl)⟩ ⟨fun h14 => ?_, fun h14 => ?_⟩
    · refine And.intro (Or.inl rfl) ?_
      refine hQ _ _ (by omega) (zTx_0 hX (by omega) (fun c j h => (zxcj (by omega) rfl))) (fun c j h0 h1 h2 => (zxcj h0 rfl))
    · refine And.intro ⟨(by omega), (zRb rfl)⟩ ⟨fun h20 => ?_, fun h20 => ?_⟩
      · refine And.intro (Or.inl rfl) ?_
        refine hQ _ _ (by omega) (zTx_0 hX (by omega) (fun c j h => (zxcj (by omega) rfl))) (fun c j h0 h1 h2 => (zxcj h0 rfl))
      · refine And.intro (zA_234 hS) (zrd (v := (w.length)) hx1 ?_)
        refine And.intro ⟨(by omega), (zRb rfl)⟩ ⟨fun h30 => ?_, fun h30 => ?_⟩
        · refine And.intro (zA_234 hS) (zrdR (v := some 235) (zR_234_2 hR) ?_)
          refine And.intro (zA_234 hS) (zrd (v := (w.length)) hx1 ?_)
          refine And.intro ⟨(zx0 rfl), (zP_235 hS (by omega) (by omega))⟩ ⟨_, (zWi (by omega)), ?_⟩
          refine And.intro (zA_234 hS) (zrd (v := (w.length)) hx1 ?_)
          refine And.intro (zA_234 hS) ⟨_, (zWi (by omega)), ?_⟩
          refine And.intro (Or.inr rfl) ?_
          refine hQ _ _ (by omega) (zTx_1 hX (by omega) (by omega) ((show _ = (((w.length) + 1) : Int) from rfl).trans (by omega)) (zxu (by decide) (zxe' (by omega))) (fun j h => zxu (by decide) (zxcj (by omega) (zxu (by decide) rfl)))) (fun c j h0 h1 h2 => (zxcj h1 (zxu h2 (zxcj h0 rfl))))
        · refine And.intro (Or.inl rfl) ?_
          refine hQ _ _ (by omega) (zTx_0 hX (by omega) (fun c j h => (zxcj (by omega) rfl))) (fun c j h0 h1 h2 => (zxcj h0 rfl)))
def T_Y_pro : ZT := fun args I L R S Q => ∃ (tp : List Int) (gn : Nat) (g : Nat), args = [zvr 165] ∧ (zSh S) ∧ (zRs R) ∧ (zTB tp I) ∧ (tGb tp) ∧ (I 234 3 = gn) ∧ (gn + g = 1) ∧ (I 234 1 = 0) ∧ ∀ (v : Int) (I' : ZI) (L' : ZI), ((itR (rdS (tC (tTk tp 400)) (tTk tp 400).length) rdX0 (scX (tTk tp 400)) ∧ rdEn (tTk tp 400).length (scX (tTk tp 400))) ∧ rdI (tTk tp 400).length (scX (tTk tp 400))) → (((scX (tTk tp 400)).1 = 0 ∧ v = -2 - ((scX (tTk tp 400)).2.1 : Nat) ∧ I' 165 0 = 2 ∧ I' 234 3 = gn ∧ (∀ j : Nat, 28 ≤ j → I' 234 j = I 234 j) ∧ L' = L) ∨ ((scX (tTk tp 400)).1 = 1 ∧ v = ((scX (tTk tp 400)).2.2.2.2.1 : Nat) ∧ I' 165 0 = 0 ∧ I' 234 3 = g ∧ zPg g (scX (tTk tp 400)) I' ∧ zFg I' L')) → (I' 234 1 = 0) → (zTB [] I') → (∀ c j : Nat, ¬ (c = 165 ∧ j = 0) → ¬ (c = 165 ∧ j = 2) → ¬ c = 235 → ¬ (c = 234 ∧ j = 0) → ¬ (c = 234 ∧ j = 1) → ¬ (c = 234 ∧ j = 3) → ¬ (c = 234 ∧ j = 15) → ¬ (c = 234 ∧ j = 16) → ¬ (c = 234 ∧ j = 17) → ¬ (c = 234 ∧ j = 18) → ¬ (c = 234 ∧ j = 19) → ¬ (c = 234 ∧ j = 20) → ¬ (c = 234 ∧ j = 21) → ¬ (c = 234 ∧ j = 25) → ¬ (c = 234 ∧ j = 27) → ¬ (c = 238 ∧ 600 * g ≤ j ∧ j < 600 * g + 600) → ¬ (c = 239 ∧ 600 * g ≤ j ∧ j < 600 * g + 600) → ¬ (c = 240 ∧ 600 * g ≤ j ∧ j < 600 * g + 600) → ¬ (c = 241 ∧ 600 * g ≤ j ∧ j < 600 * g + 600) → ¬ (c = 242 ∧ 600 * g ≤ j ∧ j < 600 * g + 600) → ¬ (c = 243 ∧ 600 * g ≤ j ∧ j < 600 * g + 600) → ¬ (c = 244 ∧ 26 * g ≤ j ∧ j < 26 * g + 26) → ¬ (c = 245 ∧ 1000 * g ≤ j ∧ j < 1000 * g + 1000) → ¬ (c = 246 ∧ 1000 * g ≤ j ∧ j < 1000 * g + 1000) → ¬ c = 247 → ¬ c = 248 → ¬ c = 250 → ¬ (c = 234 ∧ j = 36) → ¬ (c = 234 ∧ j = 38) → ¬ (c = 234 ∧ j = 40) → ¬ (c = 234 ∧ j = 42) → ¬ (c = 234 ∧ j = 44) → ¬ (c = 234 ∧ j = 45) → ¬ (c = 234 ∧ j = 46) → ¬ (c = 234 ∧ j = 47) → ¬ (c = 234 ∧ j = 48) → ¬ c = 236 → ¬ c = 237 → I' c j = I c j) → (∀ c j : Nat, ¬ c = 253 → ¬ (c = 234 ∧ j = 35) → L' c j = L c j) → Q (some (zvi (v))) I' L' R S
theorem sn_Y_pro : ZSnd 9 21 44 T_Y_pro := ZSnd.loops (zT21_44 8) (by
  rintro args I L R S Q hz ⟨tp, gn, g, rfl, hS, hR, hTB, hgb, h3, hgn, h1z, hQ⟩
  have ht0 := hTB.1
  have hg1 := hgb.1
  have hok := sc_ok (tp := tp)
  refine ⟨[4], fun nM tM lsM stM I1 L1 R1 S1 => match tM with
      | 4 => ∃ (i : Nat) (lf : Int), nM = ((4001 - i), 0, 0) ∧ lsM = [some (zvr (165)), some (zvi (lf)), some (zvi (i))] ∧ stM = [] ∧ L1 = L ∧ R1 = R ∧ S1 = S ∧ (i ≤ tp.length) ∧ (0 ≤ lf ∧ lf ≤ i) ∧ (zTx ((tF tp i).take 400).length (tC ((tF tp i).take 400)) I1) ∧ (∀ c j : Nat, ¬ (c = 234 ∧ j = 0) → ¬ (c = 234 ∧ j = 1) → ¬ c = 235 → I1 c j = I c j)
      | _ => False, rfl, ?_, ⟨?_, True.intro⟩⟩
  · refine ⟨((4001 - (0 : Nat)), 0, 0), [some (zvr (165)), some (zvi ((0 : Int))), some (zvi ((0 : Nat)))], ⟨rfl, rfl, rfl, rfl⟩, 0, 0, rfl, rfl, rfl, rfl, rfl, rfl, (by omega), (by omega), (zTx_n h1z), (fun c j h0 h1 h2 => rfl)⟩
  · rintro nM lsM stM I1 L1 R1 S1 hz1 ⟨i, lf, rfl, rfl, rfl, rfl, rfl, rfl, hi, hlf, hX, fr⟩
    have ht1 : I1 165 2 = tp.length := (fr 165 2 (by omega) (by omega) (by omega)).trans ht0
    have hgi := fun (h : i < tp.length) => hgb.2 i h
    have hai := fun (h : i < tp.length) => (fr 166 i (by omega) (by omega) (by omega)).trans (hTB.2 i h)
    refine And.intro (zA_165 hS) (zrd (v := (tp.length)) ht1 ?_)
    refine And.intro ⟨(by omega), (by omega)⟩ ⟨fun h9 => ?_, fun h9 => ?_⟩
    · refine And.intro (zA_165 hS) ⟨_, (zWi (zRb rfl)), ?_⟩
      refine And.intro (zA_165 hS) (zrdR (v := some 234) (zR_165_47 hR) ?_)
      refine And.intro (zA_234 hS) ⟨_, sn_G_rea.up (by decide), ?_⟩
      refine ⟨gn, g, (tTk tp 400).length, (tC (tTk tp 400)), rfl, hS, hR, (by have e9 : i = tp.length := (by omega); subst e9; exact zTx_m hX (fun c j h => (zxcj (by omega) rfl))), ((fr 234 3 (by omega) (by omega) (by omega)).trans h3), hgn, ?_⟩
      intro x51o v51o I51o L51o p51hit p51bhend p51bbhI p51bbbhv p51bbbbh1 p51bbbbbfr p51bbbbbbfrL
      have g51 : x51o = (scX (tTk tp 400)) := (scX_e hok.1 p51hit p51bhend).symm
      have g51b : -1000 ≤ v51o ∧ v51o ≤ 1000 := (by have h9 := hok.1.1; rcases p51bbbhv with y | y; (have := p51bbhI.2.1; omega); (have := (p51bbhI.2.2 y.1).1; omega))
      refine And.intro (by omega) ⟨fun h57 => ?_, fun h57 => ?_⟩
      · refine And.intro (zA_165 hS) ⟨_, (zWi (zRb rfl)), ?_⟩
        refine And.intro (by omega) ⟨fun h69 => ?_, (fun h69 => False.elim (by omega))⟩
        refine hQ _ _ _ (by rw [← g51]; exact ⟨⟨p51hit, p51bhend⟩, p51bbhI⟩) (by rcases p51bbbhv with y | y; (exfalso; have y2 := y.2.1; omega); (rw [← g51]; exact Or.inr ⟨y.1, by omega, (show _ = (0 : Int) from rfl), zxcj (by omega) y.2.2.1, zPg_fr y.2.2.2.1 (fun c j h1 h2 => zxcj (by omega) rfl), zFg_fr y.2.2.2.2 (fun c j h => zxcj (by omega) rfl) (fun c j h => rfl)⟩)) (zxcj (by omega) p51bbbbh1) ⟨(show _ = (0 : Int) from ((p51bbbbbfr 165 2 (by omega) (by omega) (by omega) (by omega) (by omega) (by omega) (by omega) (by omega) (by omega) (by omega) (by omega) (by omega) (by omega) (by omega) (by omega) (by omega) (by omega) (by omega) (by omega) (by omega) (by omega) (by omega) (by omega) (by omega) (by omega) (by omega) (by omega) (by omega) (by omega) (by omega) (by omega) (by omega) (by omega) (by omega) (by omega)).trans rfl)), fun i9 h9 => absurd h9 (Nat.not_lt_zero i9)⟩ (fun c j h0 h1 h2 h3 h4 h5 h6 h7 h8 h9 h10 h11 h12 h13 h14 h15 h16 h17 h18 h19 h20 h21 h22 h23 h24 h25 h26 h27 h28 h29 h30 h31 h32 h33 h34 h35 h36 h37 => (zxcj h0 ((p51bbbbbfr c j h3 h4 h5 h6 h7 h8 h9 h10 h11 h12 h13 h14 h15 h16 h17 h18 h19 h20 h21 h22 h23 h24 h25 h26 h27 h28 h29 h30 h31 h32 h33 h34 h35 h36 h37).trans (zxcj h1 ((fr c j h3 h4 h2).trans rfl))))) (fun c j h0 h1 => ((p51bbbbbbfrL c j h0 h1).trans rfl))
      · have t57 : True := True.intro
        refine And.intro (zA_165 hS) ⟨_, (zWi (zRb rfl)), ?_⟩
        refine And.intro (by omega) ⟨(fun h69 => False.elim (by omega)), fun h69 => ?_⟩
        refine hQ _ _ _ (by rw [← g51]; exact ⟨⟨p51hit, p51bhend⟩, p51bbhI⟩) (by rcases p51bbbhv with y | y; (rw [← g51]; exact Or.inl ⟨y.1, by omega, (show _ = (2 : Int) from rfl), zxcj (by omega) y.2.2.1, fun j9 h9 => (zxcj (by omega) (y.2.2.2.1 j9 h9)).trans (by repeat (first | exact rfl | refine zxcj (by omega) ?_ | refine (fr _ _ (by omega) (by omega) (by omega)).trans ?_)), y.2.2.2.2⟩); (exfalso; have y2 := y.2.1; omega)) (zxcj (by omega) p51bbbbh1) ⟨(show _ = (0 : Int) from ((p51bbbbbfr 165 2 (by omega) (by omega) (by omega) (by omega) (by omega) (by omega) (by omega) (by omega) (by omega) (by omega) (by omega) (by omega) (by omega) (by omega) (by omega) (by omega) (by omega) (by omega) (by omega) (by omega) (by omega) (by omega) (by omega) (by omega) (by omega) (by omega) (by omega) (by omega) (by omega) (by omega) (by omega) (by omega) (by omega) (by omega) (by omega)).trans rfl)), fun i9 h9 => absurd h9 (Nat.not_lt_zero i9)⟩ (fun c j h0 h1 h2 h3 h4 h5 h6 h7 h8 h9 h10 h11 h12 h13 h14 h15 h16 h17 h18 h19 h20 h21 h22 h23 h24 h25 h26 h27 h28 h29 h30 h31 h32 h33 h34 h35 h36 h37 => (zxcj h0 ((p51bbbbbfr c j h3 h4 h5 h6 h7 h8 h9 h10 h11 h12 h13 h14 h15 h16 h17 h18 h19 h20 h21 h22 h23 h24 h25 h26 h27 h28 h29 h30 h31 h32 h33 h34 h35 h36 h37).trans (zxcj h1 ((fr c j h3 h4 h2).trans rfl))))) (fun c j h0 h1 => ((p51bbbbbbfrL c j h0 h1).trans rfl))
    · refine And.intro (zA_165 hS) (zrdR (v := some 234) (zR_165_47 hR) ?_)
      refine And.intro (zA_165 hS) (zrdR (v := some 166) (zR_165_1 hR) ?_)
      refine And.intro (zP_166 hS (by omega) (by omega)) (fun v22 e22 r22 => ?_)
      have f22 : v22 = wAt tp i := (e22.trans ((congrArg (I1 166) (by omega)).trans (hai (by omega))))
      have f22b : 0 ≤ v22 ∧ v22 ≤ 255 := (by have z := hgi (by omega); omega)
      refine And.intro (zA_234 hS) ⟨_, sn_G_uni.up (by decide), ?_⟩
      refine ⟨((tF tp i).take 400), (v22 : Int), rfl, hS, hR, hX, (by omega), ?_⟩
      intro v23o I23o p23hv p23bhX p23bbfr
      refine And.intro (by omega) ⟨fun h26 => ?_, fun h26 => ?_⟩
      · refine ⟨((4001 - (i + 1)), 0, 0), zlt6 (by omega), [some (zvr (165)), some (zvi ((lf + 1))), some (zvi ((i + 1)))], ⟨rfl, rfl, rfl, rfl⟩, (i + 1), (lf + 1), rfl, rfl, rfl, rfl, rfl, rfl, (by omega), (by omega), (by rw [scU_s, ← f22]; exact p23bhX), (fun c j h0 h1 h2 => ((p23bbfr c j h0 h1 h2).trans ((fr c j h0 h1 h2).trans rfl)))⟩
      · refine ⟨((4001 - (i + 1)), 0, 0), zlt6 (by omega), [some (zvr (165)), some (zvi ((lf + 0))), some (zvi ((i + 1)))], ⟨rfl, rfl, rfl, rfl⟩, (i + 1), (lf + 0), rfl, rfl, rfl, rfl, rfl, rfl, (by omega), (by omega), (by rw [scU_s, ← f22]; exact p23bhX), (fun c j h0 h1 h2 => ((p23bbfr c j h0 h1 h2).trans ((fr c j h0 h1 h2).trans rfl)))⟩)
