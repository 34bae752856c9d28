/-! uo -/
def T_Y_rnY : ZT := fun args I L R S Q => ∃ (w : List Int) (D : DtT) (er : Int × Int × Int) (lim : Nat), args = [zvr 165, zvi lim] ∧ (zSh S) ∧ (zRs R) ∧ (scV w) ∧ (scB w D er I L) ∧ (1 ≤ lim ∧ lim ≤ 300) ∧ ∀ (v : Int) (I' : ZI) (L' : ZI), (v = (scRn (scP (scX w) lim) D.1).2.1) → (I' 165 0 = 0) → (scB w (scRn (scP (scX w) lim) D.1).1 (scRn (scP (scX w) lim) D.1).2.2 I' L') → (∀ c j : Nat, ¬ (c = 165 ∧ j = 0) → ¬ (c = 234 ∧ j = 28) → ¬ (c = 234 ∧ j = 30) → ¬ (c = 234 ∧ j = 36) → ¬ (c = 234 ∧ j = 38) → ¬ (c = 234 ∧ j = 40) → ¬ (c = 234 ∧ j = 42) → ¬ (c = 234 ∧ j = 44) → ¬ (c = 234 ∧ j = 51) → ¬ (c = 234 ∧ j = 66) → ¬ (c = 234 ∧ j = 53) → ¬ (c = 234 ∧ j = 55) → ¬ (c = 234 ∧ j = 46) → ¬ (c = 234 ∧ j = 47) → ¬ (c = 234 ∧ j = 48) → ¬ (c = 234 ∧ j = 49) → ¬ (c = 234 ∧ j = 50) → ¬ (c = 234 ∧ j = 52) → ¬ (c = 234 ∧ j = 45) → ¬ c = 254 → ¬ c = 255 → ¬ c = 256 → ¬ c = 257 → ¬ c = 258 → ¬ c = 259 → ¬ c = 260 → ¬ c = 261 → ¬ c = 262 → ¬ c = 263 → ¬ c = 264 → ¬ c = 266 → ¬ (c = 234 ∧ j = 0) → I' c j = I c j) → (∀ c j : Nat, ¬ c = 251 → ¬ c = 252 → ¬ c = 253 → ¬ c = 265 → ¬ c = 267 → ¬ (c = 234 ∧ j = 65) → ¬ (c = 234 ∧ j = 35) → ¬ (c = 234 ∧ j = 34) → L' c j = L c j) → Q (some (zvi (v))) I' L' R S
theorem sn_Y_rnY : ZSnd 15 21 59 T_Y_rnY := ZSnd.of (zT21_59 14) (by
  rintro args I L R S Q hz ⟨w, D, er, lim, rfl, hS, hR, hV, hB, hlm, hQ⟩
  refine And.intro rfl ?_
  refine And.intro (zA_165 hS) (zrdR (v := some 234) (zR_165_47 hR) ?_)
  refine And.intro (by omega) ?_
  refine And.intro (zA_234 hS) ⟨_, sn_G_rnR.up (by decide), ?_⟩
  refine ⟨w, D, er, lim, rfl, hS, hR, hV, hB, hlm, ?_⟩
  intro v6o I6o L6o p6h0 p6bhv p6bbhB p6bbbfr p6bbbbfrL
  refine And.intro (zA_165 hS) (zrdR (v := some 234) (zR_165_47 hR) ?_)
  refine And.intro (zA_234 hS) (Exists.intro _ (And.intro (zinl_ok (zT12_53 13)) (And.intro rfl ?_)))
  refine And.intro (zA_234 hS) (zrd (v := 0) p6h0 ?_)
  refine And.intro (zRb rfl) (zbf rfl ?_)
  refine And.intro (zA_165 hS) (Exists.intro _ (And.intro (zinl_ok (zT21_12 13)) (And.intro rfl ?_)))
  refine And.intro (zA_165 hS) ⟨_, (zWi (zRb rfl)), ?_⟩
  refine hQ _ _ _ (by clear hQ; grind [xu]) zxe (scB_fr p6bbhB (fun c j h => zxcj (by omega) rfl) (fun c j h => rfl)) (fun c j h0 h1 h2 h3 h4 h5 h6 h7 h8 h9 h10 h11 h12 h13 h14 h15 h16 h17 h18 h19 h20 h21 h22 h23 h24 h25 h26 h27 h28 h29 h30 h31 => (zxcj h0 ((p6bbbfr c j h1 h2 h3 h4 h5 h6 h7 h8 h9 h10 h11 h12 h13 h14 h15 h16 h17 h18 h19 h20 h21 h22 h23 h24 h25 h26 h27 h28 h29 h30 h31).trans rfl))) (fun c j h0 h1 h2 h3 h4 h5 h6 h7 => ((p6bbbbfrL c j h0 h1 h2 h3 h4 h5 h6 h7).trans rfl)))
def T_Y_rnN : ZT := fun args I L R S Q => ∃ (a : Int), args = [zvr 165, zvi a] ∧ (zSh S) ∧ (zRs R) ∧ (r32 a) ∧ (a < 1) ∧ ∀ (I' : ZI), (I' 165 0 = 2) → (∀ c j : Nat, ¬ (c = 165 ∧ j = 0) → ¬ (c = 234 ∧ j = 0) → I' c j = I c j) → Q (some (zvi (-1))) I' L R S
theorem sn_Y_rnN : ZSnd 4 21 59 T_Y_rnN := ZSnd.of (zT21_59 3) (by
  rintro args I L R S Q hz ⟨a, rfl, hS, hR, ha, hal, hQ⟩
  obtain ⟨ha1, ha2⟩ : r32 a := ha
  refine And.intro rfl ?_
  refine And.intro (zA_165 hS) (zrdR (v := some 234) (zR_165_47 hR) ?_)
  refine And.intro (by omega) ?_
  refine And.intro (zA_234 hS) (Exists.intro _ (And.intro (zinl_ok (zT12_48 2)) (And.intro rfl ?_)))
  refine ⟨_, _, ⟨zW6i (by omega), zW6i (zRL rfl)⟩, fun z3_6 c3_6 => ?_⟩
  refine And.intro c3_6.2.2 ⟨fun h4_6 => ?_, (fun h4_6 => False.elim (by omega))⟩
  refine And.intro (zA_234 hS) ⟨_, (zWi (zRb rfl)), ?_⟩
  refine And.intro (zA_234 hS) (zrd (v := 1) rfl ?_)
  refine And.intro (zRb rfl) (zbf rfl ?_)
  refine And.intro (zA_165 hS) (zrdR (v := some 234) (zR_165_47 hR) ?_)
  refine And.intro (zA_234 hS) (Exists.intro _ (And.intro (zinl_ok (zT12_53 2)) (And.intro rfl ?_)))
  refine And.intro (zA_234 hS) (zrd (v := 1) rfl ?_)
  refine And.intro (zRb rfl) (zbt rfl ?_)
  refine And.intro (zA_165 hS) (Exists.intro _ (And.intro (zinl_ok (zT21_47 2)) (And.intro rfl ?_)))
  refine And.intro (zA_165 hS) ⟨_, (zWi (zRb rfl)), ?_⟩
  refine hQ _ zxe (fun c j h0 h1 => (zxcj h0 (zxcj h1 rfl))))
def T_Y_rnM : ZT := fun args I L R S Q => ∃ (a : Int), args = [zvr 165, zvi a] ∧ (zSh S) ∧ (zRs R) ∧ (r32 a) ∧ (300 < a) ∧ ∀ (I' : ZI), (I' 165 0 = 2) → (∀ c j : Nat, ¬ (c = 165 ∧ j = 0) → ¬ (c = 234 ∧ j = 0) → I' c j = I c j) → Q (some (zvi (-1))) I' L R S
theorem sn_Y_rnM : ZSnd 4 21 59 T_Y_rnM := ZSnd.of (zT21_59 3) (by
  rintro args I L R S Q hz ⟨a, rfl, hS, hR, ha, hal, hQ⟩
  obtain ⟨ha1, ha2⟩ : r32 a := ha
  refine And.intro rfl ?_
  refine And.intro (zA_165 hS) (zrdR (v := some 234) (zR_165_47 hR) ?_)
  refine And.intro (by omega) ?_
  refine And.intro (zA_234 hS) (Exists.intro _ (And.intro (zinl_ok (zT12_48 2)) (And.intro rfl ?_)))
  refine ⟨_, _, ⟨zW6i (by omega), zW6i (zRL rfl)⟩, fun z3_6 c3_6 => ?_⟩
  refine And.intro c3_6.2.2 ⟨(fun h4_6 => False.elim (by omega)), fun h4_6 => ?_⟩
  refine ⟨_, _, ⟨zW6i (by omega), zW6i (zRL rfl)⟩, fun z11_6 c11_6 => ?_⟩
  refine And.intro c11_6.2.2 ⟨fun h12_6 => ?_, (fun h12_6 => False.elim (by omega))⟩
  refine And.intro (zA_234 hS) ⟨_, (zWi (zRb rfl)), ?_⟩
  refine And.intro (zA_234 hS) (zrd (v := 1) rfl ?_)
  refine And.intro (zRb rfl) (zbf rfl ?_)
  refine And.intro (zA_165 hS) (zrdR (v := some 234) (zR_165_47 hR) ?_)
  refine And.intro (zA_234 hS) (Exists.intro _ (And.intro (zinl_ok (zT12_53 2)) (And.intro rfl ?_)))
  refine And.intro (zA_234 hS) (zrd (v := 1) rfl ?_)
  refine And.intro (zRb rfl) (zbt rfl ?_)
  refine And.intro (zA_165 hS) (Exists.intro _ (And.intro (zinl_ok (zT21_47 2)) (And.intro rfl ?_)))
  refine And.intro (zA_165 hS) ⟨_, (zWi (zRb rfl)), ?_⟩
  refine hQ _ zxe (fun c j h0 h1 => (zxcj h0 (zxcj h1 rfl))))
def T_Y_dmY : ZT := fun args I L R S Q => ∃ (w : List Int) (D : DtT) (er : Int × Int × Int) (j : Nat), args = [zvr 165, zvi j] ∧ (zSh S) ∧ (zRs R) ∧ (scV w) ∧ (scB w D er I L) ∧ (scDb w D) ∧ (j < D.2.2.1) ∧ ∀ (v : Int) (I' : ZI) (L' : ZI), (v = scDe D.1 ((scX w).2.2.2.2.2.2.1 (D.2.2.2 j)).2.2.2.2.1) → (∀ c j : Nat, ¬ (c = 234 ∧ j = 0) → ¬ (c = 234 ∧ j = 66) → I' c j = I c j) → (∀ c j : Nat, ¬ c = 267 → ¬ (c = 234 ∧ j = 65) → L' c j = L c j) → Q (some (zvi (v))) I' L' R S
theorem sn_Y_dmY : ZSnd 4 21 11 T_Y_dmY := ZSnd.of (zT21_11 3) (by
  rintro args I L R S Q hz ⟨w, D, er, j, rfl, hS, hR, hV, hB, hDb, hj, hQ⟩
  obtain ⟨g, ⟨g3, g3b⟩, g1, g20, gO, gF, gV, ⟨⟨g36, g36b⟩, gou⟩, ⟨⟨g38, g38b⟩, gdm⟩, ⟨g46, g47, g48⟩, g32⟩ := id hB
  have hb := scV_b hV
  obtain ⟨p, hp1, hp2, hp3, hp4⟩ := hDb j hj
  have hO := gO (D.2.2.2 j) hp1
  have hk9 : hsL ((scX w).2.2.2.2.2.2.1 (D.2.2.2 j)).1 := by rw [hp2, (stO_s (by omega)).1, hp3]; show hsL (smK 38); exact Or.inr (by decide)
  obtain ⟨q, hq1, hq2, hq3, hq4⟩ := hO.2.2 hk9
  have hrv : I 255 j = q := (gdm j hj).trans hq1
  refine And.intro rfl ?_
  refine And.intro (zA_165 hS) (zrdR (v := some 234) (zR_165_47 hR) ?_)
  refine And.intro (zA_234 hS) (Exists.intro _ (And.intro (zinl_ok (zT12_2 2)) (And.intro rfl ?_)))
  refine And.intro (zA_234 hS) ⟨_, (zWi (zRb rfl)), ?_⟩
  refine And.intro (by omega) ⟨(fun h6_5 => False.elim (by omega)), fun h6_5 => ?_⟩
  refine And.intro (zA_234 hS) (zrd (v := (D.2.2.1)) g38 ?_)
  refine And.intro ⟨(by omega), (by omega)⟩ ⟨fun h14_5 => ?_, (fun h14_5 => False.elim (by omega))⟩
  refine And.intro (zA_234 hS) (zrdR (v := some 255) (zR_234_39 hR) ?_)
  refine And.intro (zP_255 hS (by omega) (by omega)) (fun v25_5 e25_5 r25_5 => ?_)
  have f25_5 : v25_5 = q := (e25_5.trans (zxu (by decide) ((congrArg (I 255) (by omega)).trans hrv)))
  refine And.intro (zA_234 hS) ⟨_, sn_G_ask.up (by decide), ?_⟩
  refine ⟨g, q, ((scX w).2.2.2.2.2.2.1 (D.2.2.2 j)).2.2.2.2.1, D.1, (v25_5 : Int), rfl, hS, hR, g3, (by omega), (zCo_fr hq3 (fun c j h1 h2 => zxu (by omega) rfl)), hq4, (zRv_fr gV (fun c j h => zxcj (by omega) rfl) (fun c j h => rfl)), (by omega), (by omega), ?_⟩
  intro v26_5o I26_5o L26_5o p26_5hv p26_5bh66 p26_5bbh65 p26_5bbbfr p26_5bbbbfrL
  have g26_5 : True := True.intro
  refine And.intro (by omega) ⟨fun h29_5 => ?_, fun h29_5 => ?_⟩
  · refine And.intro (zA_234 hS) (fun v38_5 e38_5 r38_5 => ?_)
    refine ⟨_, _, ⟨zW6i r38_5, zW6i (zRL rfl)⟩, fun z42_5 c42_5 => ?_⟩
    refine And.intro c42_5.2.2 ⟨fun h43_5 => ?_, fun h43_5 => ?_⟩
    · refine hQ _ _ _ (by unfold scDe; rcases p26_5hv with y | y; (rw [if_pos y.2]; have z := p26_5bbh65 y.2; first | (exfalso; omega) | (rw [if_pos (by omega)]) | (rw [if_neg (by omega)])); (first | (exfalso; omega) | (rw [if_neg y.2]))) (fun c j h0 h1 => ((p26_5bbbfr c j h1).trans (zxcj h0 rfl))) (fun c j h0 h1 => ((p26_5bbbbfrL c j h0 h1).trans rfl))
    · refine hQ _ _ _ (by unfold scDe; rcases p26_5hv with y | y; (rw [if_pos y.2]; have z := p26_5bbh65 y.2; first | (exfalso; omega) | (rw [if_pos (by omega)]) | (rw [if_neg (by omega)])); (first | (exfalso; omega) | (rw [if_neg y.2]))) (fun c j h0 h1 => ((p26_5bbbfr c j h1).trans (zxcj h0 rfl))) (fun c j h0 h1 => ((p26_5bbbbfrL c j h0 h1).trans rfl))
  · refine hQ _ _ _ (by unfold scDe; rcases p26_5hv with y | y; (rw [if_pos y.2]; have z := p26_5bbh65 y.2; first | (exfalso; omega) | (rw [if_pos (by omega)]) | (rw [if_neg (by omega)])); (first | (exfalso; omega) | (rw [if_neg y.2]))) (fun c j h0 h1 => ((p26_5bbbfr c j h1).trans (zxcj h0 rfl))) (fun c j h0 h1 => ((p26_5bbbbfrL c j h0 h1).trans rfl)))
def T_Y_dmN : ZT := fun args I L R S Q => ∃ (w : List Int) (D : DtT) (er : Int × Int × Int) (a : Int), args = [zvr 165, zvi a] ∧ (zSh S) ∧ (zRs R) ∧ (scB w D er I L) ∧ (r32 a) ∧ (a < 0) ∧ ∀ (v : Int) (I' : ZI), (v = -1) → (∀ c j : Nat, ¬ (c = 234 ∧ j = 0) → I' c j = I c j) → Q (some (zvi (v))) I' L R S
theorem sn_Y_dmN : ZSnd 5 21 11 T_Y_dmN := ZSnd.of (zT21_11 4) (by
  rintro args I L R S Q hz ⟨w, D, er, a, rfl, hS, hR, hB, ha, hal, hQ⟩
  obtain ⟨g, ⟨g3, g3b⟩, g1, g20, gO, gF, gV, ⟨⟨g36, g36b⟩, gou⟩, ⟨⟨g38, g38b⟩, gdm⟩, ⟨g46, g47, g48⟩, g32⟩ := id hB
  obtain ⟨ha1, ha2⟩ : r32 a := ha
  refine And.intro rfl ?_
  refine And.intro (zA_165 hS) (zrdR (v := some 234) (zR_165_47 hR) ?_)
  refine And.intro (zA_234 hS) (Exists.intro _ (And.intro (zinl_ok (zT12_2 3)) (And.intro rfl ?_)))
  refine And.intro (zA_234 hS) ⟨_, (zWi (zRb rfl)), ?_⟩
  refine And.intro (by omega) ⟨fun h6_5 => ?_, (fun h6_5 => False.elim (by omega))⟩
  refine hQ _ _ (by omega) (fun c j h0 => (zxcj h0 rfl)))
def T_Y_dmM : ZT := fun args I L R S Q => ∃ (w : List Int) (D : DtT) (er : Int × Int × Int) (a : Int), args = [zvr 165, zvi a] ∧ (zSh S) ∧ (zRs R) ∧ (scB w D er I L) ∧ (r32 a) ∧ (D.2.2.1 ≤ a) ∧ ∀ (v : Int) (I' : ZI), (v = -1) → (∀ c j : Nat, ¬ (c = 234 ∧ j = 0) → I' c j = I c j) → Q (some (zvi (v))) I' L R S
theorem sn_Y_dmM : ZSnd 5 21 11 T_Y_dmM := ZSnd.of (zT21_11 4) (by
  rintro args I L R S Q hz ⟨w, D, er, a, rfl, hS, hR, hB, ha, hal, hQ⟩
  obtain ⟨g, ⟨g3, g3b⟩, g1, g20, gO, gF, gV, ⟨⟨g36, g36b⟩, gou⟩, ⟨⟨g38, g38b⟩, gdm⟩, ⟨g46, g47, g48⟩, g32⟩ := id hB
  obtain ⟨ha1, ha2⟩ : r32 a := ha
  refine And.intro rfl ?_
  refine And.intro (zA_165 hS) (zrdR (v := some 234) (zR_165_47 hR) ?_)
  refine And.intro (zA_234 hS) (Exists.intro _ (And.intro (zinl_ok (zT12_2 3)) (And.intro rfl ?_)))
  refine And.intro (zA_234 hS) ⟨_, (zWi (zRb rfl)), ?_⟩
  refine And.intro (by omega) ⟨(fun h6_5 => False.elim (by omega)), fun h6_5 => ?_⟩
  refine And.intro (zA_234 hS) (zrd (v := (D.2.2.1)) g38 ?_)
  refine And.intro ⟨(by omega), (by omega)⟩ ⟨(fun h14_5 => False.elim (by omega)), fun h14_5 => ?_⟩
  refine hQ _ _ (by omega) (fun c j h0 => (zxcj h0 rfl)))
