/-! uv -/
def T_G_adY : ZT := fun args I L R S Q => ∃ (w : List Int) (D : DtT) (er : Int × Int × Int) (j : Nat), args = [zvr 234, zvi j] ∧ (zSh S) ∧ (zRs R) ∧ (scV w) ∧ (scB w D er I L) ∧ (scDb w D) ∧ (j < D.2.2.1) ∧ ∀ (v : Int) (I' : ZI) (L' : ZI), (v = scDj w D j) → (∀ c j : Nat, ¬ (c = 234 ∧ j = 0) → ¬ (c = 234 ∧ j = 66) → I' c j = I c j) → (∀ c j : Nat, ¬ c = 267 → ¬ (c = 234 ∧ j = 65) → L' c j = L c j) → Q (some (zvi (v))) I' L' R S
theorem sn_G_adY : ZSnd 3 12 2 T_G_adY := ZSnd.of (zT12_2 2) (by
  rintro args I L R S Q hz ⟨w, D, er, j, rfl, hS, hR, hV, hB, hDb, hj, hQ⟩
  obtain ⟨g, ⟨g3, g3b⟩, g1, g20, gO, gF, gV, ⟨⟨g36, g36b⟩, gou⟩, ⟨⟨g38, g38b⟩, gdm⟩, ⟨g46, g47, g48⟩, g32⟩ := id hB
  have hb := scV_b hV
  obtain ⟨p, hp1, hp2, hp3, hp4⟩ := hDb j hj
  have hO := gO (D.2.2.2 j) hp1
  have hk9 : hsL ((scX w).2.2.2.2.2.2.1 (D.2.2.2 j)).1 := by rw [hp2, (stO_s (by omega)).1, hp3]; show hsL (smK 38); exact Or.inr (by decide)
  obtain ⟨q, hq1, hq2, hq3, hq4⟩ := hO.2.2 hk9
  have hrv : I 255 j = q := (gdm j hj).trans hq1
  refine And.intro rfl ?_
  refine And.intro (zA_234 hS) ⟨_, (zWi (zRb rfl)), ?_⟩
  refine And.intro (by omega) ⟨(fun h6 => False.elim (by omega)), fun h6 => ?_⟩
  refine And.intro (zA_234 hS) (zrd (v := (D.2.2.1)) g38 ?_)
  refine And.intro ⟨(by omega), (by omega)⟩ ⟨fun h14 => ?_, (fun h14 => False.elim (by omega))⟩
  refine And.intro (zA_234 hS) (zrdR (v := some 255) (zR_234_39 hR) ?_)
  refine And.intro (zP_255 hS (by omega) (by omega)) (fun v25 e25 r25 => ?_)
  have f25 : v25 = q := (e25.trans (zxu (by decide) ((congrArg (I 255) (by omega)).trans hrv)))
  refine And.intro (zA_234 hS) ⟨_, sn_G_ask.up (by decide), ?_⟩
  refine ⟨g, q, ((scX w).2.2.2.2.2.2.1 (D.2.2.2 j)).2.2.2.2.1, D.1, (v25 : Int), rfl, hS, hR, g3, (by omega), (zCo_fr hq3 (fun c j h1 h2 => zxu (by omega) rfl)), hq4, (zRv_fr gV (fun c j h => zxcj (by omega) rfl) (fun c j h => rfl)), (by omega), (by omega), ?_⟩
  intro v26o I26o L26o p26hv p26bh66 p26bbh65 p26bbbfr p26bbbbfrL
  refine And.intro (by omega) ⟨fun h29 => ?_, fun h29 => ?_⟩
  · refine And.intro (zA_234 hS) (fun v38 e38 r38 => ?_)
    refine ⟨_, _, ⟨zW6i r38, zW6i (zRL rfl)⟩, fun z42 c42 => ?_⟩
    refine And.intro c42.2.2 ⟨fun h43 => ?_, fun h43 => ?_⟩
    · refine hQ _ _ _ (by unfold scDj scDe; rcases p26hv with y | y; (rw [if_pos y.2]; have z := p26bbh65 y.2; first | (exfalso; omega) | (rw [if_pos (by omega)]) | (rw [if_neg (by omega)])); (first | (exfalso; omega) | (rw [if_neg y.2]))) (fun c j h0 h1 => ((p26bbbfr c j h1).trans (zxcj h0 rfl))) (fun c j h0 h1 => ((p26bbbbfrL c j h0 h1).trans rfl))
    · refine hQ _ _ _ (by unfold scDj scDe; rcases p26hv with y | y; (rw [if_pos y.2]; have z := p26bbh65 y.2; first | (exfalso; omega) | (rw [if_pos (by omega)]) | (rw [if_neg (by omega)])); (first | (exfalso; omega) | (rw [if_neg y.2]))) (fun c j h0 h1 => ((p26bbbfr c j h1).trans (zxcj h0 rfl))) (fun c j h0 h1 => ((p26bbbbfrL c j h0 h1).trans rfl))
  · refine hQ _ _ _ (by unfold scDj scDe; rcases p26hv with y | y; (rw [if_pos y.2]; have z := p26bbh65 y.2; first | (exfalso; omega) | (rw [if_pos (by omega)]) | (rw [if_neg (by omega)])); (first | (exfalso; omega) | (rw [if_neg y.2]))) (fun c j h0 h1 => ((p26bbbfr c j h1).trans (zxcj h0 rfl))) (fun c j h0 h1 => ((p26bbbbfrL c j h0 h1).trans rfl)))
def T_G_adM : ZT := fun args I L R S Q => ∃ (w : List Int) (D : DtT) (er : Int × Int × Int) (j : Nat), args = [zvr 234, zvi j] ∧ (zSh S) ∧ (zRs R) ∧ (scB w D er I L) ∧ (D.2.2.1 ≤ j) ∧ (j ≤ 8) ∧ ∀ (v : Int) (I' : ZI) (L' : ZI), (v = -1) → (∀ c j : Nat, ¬ (c = 234 ∧ j = 0) → ¬ (c = 234 ∧ j = 66) → I' c j = I c j) → (∀ c j : Nat, ¬ c = 267 → ¬ (c = 234 ∧ j = 65) → L' c j = L c j) → Q (some (zvi (v))) I' L' R S
theorem sn_G_adM : ZSnd 3 12 2 T_G_adM := ZSnd.of (zT12_2 2) (by
  rintro args I L R S Q hz ⟨w, D, er, j, rfl, hS, hR, hB, hj, hj8, hQ⟩
  obtain ⟨g, ⟨g3, g3b⟩, g1, g20, gO, gF, gV, ⟨⟨g36, g36b⟩, gou⟩, ⟨⟨g38, g38b⟩, gdm⟩, ⟨g46, g47, g48⟩, g32⟩ := id hB
  refine And.intro rfl ?_
  refine And.intro (zA_234 hS) ⟨_, (zWi (zRb rfl)), ?_⟩
  refine And.intro (by omega) ⟨(fun h6 => False.elim (by omega)), fun h6 => ?_⟩
  refine And.intro (zA_234 hS) (zrd (v := (D.2.2.1)) g38 ?_)
  refine And.intro ⟨(by omega), (by omega)⟩ ⟨(fun h14 => False.elim (by omega)), fun h14 => ?_⟩
  refine hQ _ _ _ (by omega) (fun c j h0 h1 => (zxcj h0 rfl)) (fun c j h0 h1 => rfl))
def T_Y_due : ZT := fun args I L R S Q => ∃ (w : List Int) (D : DtT) (er : Int × Int × Int) (q : Nat) (e : Int), args = [zvr 165] ∧ (zSh S) ∧ (zRs R) ∧ (R 165 31 = some q) ∧ (zDy zT15 zF15 q R S) ∧ (I 165 34 = e) ∧ (e = 0 ∨ e = 1) ∧ (scV w) ∧ (scB w D er I L) ∧ (scDb w D) ∧ ∀ (v : Int) (I' : ZI) (L' : ZI), (v = scDu w D e) → (∀ c j : Nat, ¬ (c = 234 ∧ j = 0) → ¬ (c = 234 ∧ j = 66) → I' c j = I c j) → (∀ c j : Nat, ¬ c = 267 → ¬ (c = 234 ∧ j = 65) → L' c j = L c j) → Q (some (zvi (v))) I' L' R S
theorem sn_Y_due : ZSnd 4 21 32 T_Y_due := ZSnd.loops (zT21_32 3) (by
  rintro args I L R S Q hz ⟨w, D, er, q, e, rfl, hS, hR, hrc, hdq, hf, he, hV, hB, hDb, hQ⟩
  obtain ⟨g, ⟨g3, g3b⟩, g1, g20, gO, gF, gV, ⟨⟨g36, g36b⟩, gou⟩, ⟨⟨g38, g38b⟩, gdm⟩, ⟨g46, g47, g48⟩, g32⟩ := id hB
  refine ⟨[7], fun nM tM lsM stM I1 L1 R1 S1 => match tM with
      | 7 => ∃ (i : Nat) (a : Int), nM = ((20 - i), 0, 0) ∧ lsM = [some (zvr (165)), some (zvi (a)), some (zvi (i))] ∧ stM = [] ∧ R1 = R ∧ S1 = S ∧ (i ≤ 8) ∧ (a = (adM (scDj w D) e D.2.2.1 i)) ∧ (0 ≤ a ∧ a ≤ 1) ∧ (∀ c j : Nat, ¬ (c = 234 ∧ j = 0) → ¬ (c = 234 ∧ j = 66) → I1 c j = I c j) ∧ (∀ c j : Nat, ¬ c = 267 → ¬ (c = 234 ∧ j = 65) → L1 c j = L c j)
      | _ => False, rfl, ?_, ⟨?_, True.intro⟩⟩
  · refine And.intro (zA_165 hS) ⟨_, sn_Y_ex.up (by decide), ?_⟩
    refine ⟨q, e, rfl, hS, hR, hrc, hdq, hf, he, ?_⟩
    intro v1o p1hv
    refine ⟨((20 - (0 : Nat)), 0, 0), [some (zvr (165)), some (zvi (e)), some (zvi ((0 : Nat)))], ⟨rfl, (congrArg (fun z => some (zvi z)) (by omega)), rfl, rfl⟩, 0, e, rfl, rfl, rfl, rfl, rfl, (by omega), (show _ = adN (scDj w D) e (min 0 D.2.2.1) from by rw [Nat.zero_min]; show _ = e; omega), (by omega), (fun c j h0 h1 => rfl), (fun c j h0 h1 => rfl)⟩
  · rintro nM lsM stM I1 L1 R1 S1 hz1 ⟨i, a, rfl, rfl, rfl, rfl, rfl, hi, ha, hab, fr, frL⟩
    have hB1 : scB w D er I1 L1 := scB_fr hB (fun c j h => fr c j (by omega) (by omega)) (fun c j h => frL c j (by omega) (by omega))
    have hdj := scDj_b (w := w) (D := D) (j := i)
    refine And.intro ⟨(by omega), (zRb rfl)⟩ ⟨fun h10 => ?_, fun h10 => ?_⟩
    · refine And.intro (by omega) ?_
      refine hQ _ _ _ (by unfold scDu; rw [← adM_e (i := i) (by omega)]; omega) (fun c j h0 h1 => ((fr c j h0 h1).trans rfl)) (fun c j h0 h1 => ((frL c j h0 h1).trans rfl))
    · refine And.intro (by omega) ⟨fun h14 => ?_, fun h14 => ?_⟩
      · refine ⟨((20 - (i + 1)), 0, 0), zlt6 (by omega), [some (zvr (165)), some (zvi ((0 : Int))), some (zvi ((i + 1)))], ⟨rfl, rfl, rfl, rfl⟩, (i + 1), 0, rfl, rfl, rfl, rfl, rfl, (by omega), (by first | exact (adM_1 (by omega) (by omega) (by omega)).symm | exact (adM_n (by omega) (by omega)).symm | exact (adM_0 (by omega)).symm | (rw [adM_ou (by omega)]; omega)), (by omega), (fun c j h0 h1 => ((fr c j h0 h1).trans rfl)), (fun c j h0 h1 => ((frL c j h0 h1).trans rfl))⟩
      · rcases (Nat.lt_or_ge i D.2.2.1) with hlt | hlt
        · refine And.intro (zA_165 hS) (zrdR (v := some 234) (zR_165_47 hR) ?_)
          refine And.intro (zA_234 hS) ⟨_, sn_G_adY.up (by decide), ?_⟩
          refine ⟨w, D, er, i, rfl, hS, hR, hV, hB1, hDb, (by omega), ?_⟩
          intro v22o I22o L22o p22hv p22bfr p22bbfrL
          have g22 : v22o = -1 ∨ v22o = 0 ∨ v22o = 1 ∨ v22o = -2 := (by first | (rw [p22hv]; have z := scDj_b (w := w) (D := D) (j := i); omega) | omega)
          refine And.intro ⟨(by omega), (zRb rfl)⟩ ⟨fun h26 => ?_, fun h26 => ?_⟩
          · refine ⟨((20 - (i + 1)), 0, 0), zlt6 (by omega), [some (zvr (165)), some (zvi ((1 : Int))), some (zvi ((i + 1)))], ⟨rfl, rfl, rfl, rfl⟩, (i + 1), 1, rfl, rfl, rfl, rfl, rfl, (by omega), (by first | exact (adM_1 (by omega) (by omega) (by omega)).symm | exact (adM_n (by omega) (by omega)).symm | exact (adM_0 (by omega)).symm | (rw [adM_ou (by omega)]; omega)), (by omega), (fun c j h0 h1 => ((p22bfr c j h0 h1).trans ((fr c j h0 h1).trans rfl))), (fun c j h0 h1 => ((p22bbfrL c j h0 h1).trans ((frL c j h0 h1).trans rfl)))⟩
          · refine And.intro (zA_165 hS) (zrdR (v := some 234) (zR_165_47 hR) ?_)
            refine And.intro (zA_234 hS) ⟨_, sn_G_adY.up (by decide), ?_⟩
            refine ⟨w, D, er, i, rfl, hS, hR, hV, (scB_fr hB1 (fun c j h => p22bfr c j (by omega) (by omega)) (fun c j h => p22bbfrL c j (by omega) (by omega))), hDb, (by omega), ?_⟩
            intro v34o I34o L34o p34hv p34bfr p34bbfrL
            have g34 : v34o = -1 ∨ v34o = 0 ∨ v34o = 1 ∨ v34o = -2 := (by first | (rw [p34hv]; have z := scDj_b (w := w) (D := D) (j := i); omega) | omega)
            refine And.intro ⟨(by omega), (zRb rfl)⟩ ⟨fun h38 => ?_, fun h38 => ?_⟩
            · refine ⟨((20 - (i + 1)), 0, 0), zlt6 (by omega), [some (zvr (165)), some (zvi ((0 : Int))), some (zvi ((i + 1)))], ⟨rfl, rfl, rfl, rfl⟩, (i + 1), 0, rfl, rfl, rfl, rfl, rfl, (by omega), (by first | exact (adM_1 (by omega) (by omega) (by omega)).symm | exact (adM_n (by omega) (by omega)).symm | exact (adM_0 (by omega)).symm | (rw [adM_ou (by omega)]; omega)), (by omega), (fun c j h0 h1 => ((p34bfr c j h0 h1).trans ((p22bfr c j h0 h1).trans ((fr c j h0 h1).trans rfl)))), (fun c j h0 h1 => ((p34bbfrL c j h0 h1).trans ((p22bbfrL c j h0 h1).trans ((frL c j h0 h1).trans rfl))))⟩
            · refine ⟨((20 - (i + 1)), 0, 0), zlt6 (by omega), [some (zvr (165)), some (zvi ((1 : Int))), some (zvi ((i + 1)))], ⟨rfl, rfl, rfl, rfl⟩, (i + 1), 1, rfl, rfl, rfl, rfl, rfl, (by omega), (by first | exact (adM_1 (by omega) (by omega) (by omega)).symm | exact (adM_n (by omega) (by omega)).symm | exact (adM_0 (by omega)).symm | (rw [adM_ou (by omega)]; omega)), (by omega), (fun c j h0 h1 => ((p34bfr c j h0 h1).trans ((p22bfr c j h0 h1).trans ((fr c j h0 h1).trans rfl)))), (fun c j h0 h1 => ((p34bbfrL c j h0 h1).trans ((p22bbfrL c j h0 h1).trans ((frL c j h0 h1).trans rfl))))⟩
        · refine And.intro (zA_165 hS) (zrdR (v := some 234) (zR_165_47 hR) ?_)
          refine And.intro (zA_234 hS) ⟨_, sn_G_adM.up (by decide), ?_⟩
          refine ⟨w, D, er, i, rfl, hS, hR, hB1, (by omega), (by omega), ?_⟩
          intro v22o I22o L22o p22hv p22bfr p22bbfrL
          have g22 : v22o = -1 ∨ v22o = 0 ∨ v22o = 1 ∨ v22o = -2 := (by first | (rw [p22hv]; have z := scDj_b (w := w) (D := D) (j := i); omega) | omega)
          refine And.intro ⟨(by omega), (zRb rfl)⟩ ⟨fun h26 => ?_, (fun h26 => False.elim (by omega))⟩
          refine ⟨((20 - (i + 1)), 0, 0), zlt6 (by omega), [some (zvr (165)), some (zvi ((1 : Int))), some (zvi ((i + 1)))], ⟨rfl, rfl, rfl, rfl⟩, (i + 1), 1, rfl, rfl, rfl, rfl, rfl, (by omega), (by first | exact (adM_1 (by omega) (by omega) (by omega)).symm | exact (adM_n (by omega) (by omega)).symm | exact (adM_0 (by omega)).symm | (rw [adM_ou (by omega)]; omega)), (by omega), (fun c j h0 h1 => ((p22bfr c j h0 h1).trans ((fr c j h0 h1).trans rfl))), (fun c j h0 h1 => ((p22bbfrL c j h0 h1).trans ((frL c j h0 h1).trans rfl)))⟩)
