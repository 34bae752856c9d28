/-! bo -/
def T_A_tkN : ZT := fun args I L R S Q => ∃ (d : JdS) (ob : Nat → Int), args = [zvr 82, zvr 63] ∧ (zSh S) ∧ (zRs R) ∧ (zDA d ob I) ∧ (jGd d) ∧ (zCw d I) ∧ ∀ (I' : ZI), (∀ x : Nat, x < 960 → I' 97 x = bDj d x) → (∀ c j : Nat, ¬ c = 97 → I' c j = I c j) → Q none I' L R S
theorem sn_A_tkN : ZSnd 4 0 25 T_A_tkN := ZSnd.loops (zT0_25 3) (by
  rintro args I L R S Q hz ⟨d, ob, rfl, hS, hR, hDA, hJG, hCw, hQ⟩
  refine ⟨[2], fun nM tM lsM stM I1 L1 R1 S1 => match tM with
      | 2 => ∃ (m : Nat), nM = ((961 - m), 0, 0) ∧ lsM = [some (zvr (82)), some (zvr (63)), some (zvi (m))] ∧ stM = [] ∧ L1 = L ∧ R1 = R ∧ S1 = S ∧ (m ≤ 960) ∧ (∀ x : Nat, x < m → I1 97 x = bDj d x) ∧ (∀ c j : Nat, ¬ c = 97 → I1 c j = I c j)
      | _ => False, rfl, ?_, ⟨?_, True.intro⟩⟩
  · refine ⟨((961 - (0 : Nat)), 0, 0), [some (zvr (82)), some (zvr (63)), some (zvi ((0 : Nat)))], ⟨rfl, rfl, rfl, rfl⟩, 0, rfl, rfl, rfl, rfl, rfl, rfl, (by omega), (fun x h => absurd h (Nat.not_lt_zero x)), (fun c j h0 => rfl)⟩
  · rintro nM lsM stM I1 L1 R1 S1 hz1 ⟨m, rfl, rfl, rfl, rfl, rfl, rfl, hm, hn, fr⟩
    refine And.intro ⟨(by omega), (zRb rfl)⟩ ⟨fun h6 => ?_, fun h6 => ?_⟩
    · refine hQ _ (fun x hx => hn x (by omega)) (fun c j h0 => ((fr c j (by omega)).trans rfl))
    · refine And.intro (zA_82 hS) (zrdR (v := some 97) (zR_82_17 hR) ?_)
      refine And.intro ⟨(by omega), (zRb rfl), (by decide)⟩ (zdv (by omega) (fun q18 e18 => ?_))
      refine And.intro ⟨(by omega), (zRb rfl), (by decide)⟩ (zdv (by omega) (fun q22 e22 => ?_))
      refine And.intro (zA_63 hS) ⟨_, sn_C_netO2.up (by decide), ?_⟩
      refine ⟨d, ob, (q18 : Int), (q22 : Int), rfl, hS, hR, (zDA_fr hDA (fun c j h => fr c j (by omega))), hJG, (zCw_fr hCw (fun c j h => fr c j (by omega))), (by omega), ?_⟩
      intro v23o p23hv
      have g23 : -1 ≤ v23o ∧ v23o + 1 ≤ 960 := (by have w := jOf_b hJG (x := q18) (y := q22); omega)
      refine And.intro ⟨(zx0 rfl), (zP_97 hS (by omega) (by omega))⟩ ⟨_, (zWi (by omega)), ?_⟩
      refine ⟨((961 - (m + 1)), 0, 0), zlt6 (by omega), [some (zvr (82)), some (zvr (63)), some (zvi ((m + 1)))], ⟨rfl, rfl, rfl, rfl⟩, (m + 1), rfl, rfl, rfl, rfl, rfl, rfl, (by omega), ?_, (fun c j h0 => (zxu h0 ((fr c j (by omega)).trans rfl)))⟩
      · intro x hx
        by_cases e : x = m
        · rw [e]
          refine (zxe' (by omega)).trans (p23hv.trans ?_)
          unfold bDj
          rw [show q18 = ((m / 16 : Nat) : Int) by omega, show q22 = ((m % 16 : Nat) : Int) by omega]
        · exact zxs (by omega) (hn x (by omega)))
def T_A_brd0 : ZT := fun args I L R S Q => ∃ (x : Int) (y : Int) (z : Int) (sd : Int), args = [zvr 40, zvi x, zvi y, zvi z, zvl sd] ∧ (zSh S) ∧ (zRs R) ∧ ((r32 x ∧ r32 y ∧ r32 z) ∧ r64 sd) ∧ (I 63 15 = 0) ∧ ∀ (I' : ZI), (I' 40 3 = 3) → (∀ c j : Nat, ¬ (c = 40 ∧ j = 3) → I' c j = I c j) → Q (some (zvi (-1))) I' L R S
theorem sn_A_brd0 : ZSnd 5 11 5 T_A_brd0 := ZSnd.of (zT11_5 4) (by
  rintro args I L R S Q hz ⟨x, y, z, sd, rfl, hS, hR, hr, ht, hQ⟩
  refine And.intro rfl ?_
  refine And.intro (zA_40 hS) (zrdR (v := some 63) (zR_40_8 hR) ?_)
  refine And.intro (zA_63 hS) (zrd (v := 0) ht ?_)
  refine And.intro (zRb rfl) (zbf rfl ?_)
  refine And.intro (zA_40 hS) (Exists.intro _ (And.intro (zinl_ok (zT11_1 3)) (And.intro rfl ?_)))
  refine And.intro (zRb rfl) (zbf rfl ?_)
  refine And.intro (zA_40 hS) ⟨_, (zWi (zRb rfl)), ?_⟩
  refine And.intro (zRb rfl) (zbf rfl ?_)
  refine hQ _ zxe (fun c j h0 => (zxcj h0 rfl)))
def T_A_brdF : ZT := fun args I L R S Q => ∃ (x : Int) (y : Int) (z : Int) (sd : Int) (t : Int) (b : Nat), args = [zvr 40, zvi x, zvi y, zvi z, zvl sd] ∧ (zSh S) ∧ (zRs R) ∧ ((r32 x ∧ r32 y ∧ r32 z) ∧ r64 sd) ∧ (I 63 15 = t) ∧ (1 ≤ t ∧ t ≤ 10) ∧ (I 82 0 = b - 1) ∧ (b = 6) ∧ ∀ (I' : ZI), (I' 40 3 = 1) → (∀ c j : Nat, ¬ (c = 40 ∧ j = 3) → I' c j = I c j) → Q (some (zvi (-1))) I' L R S
theorem sn_A_brdF : ZSnd 5 11 5 T_A_brdF := ZSnd.of (zT11_5 4) (by
  rintro args I L R S Q hz ⟨x, y, z, sd, t, b, rfl, hS, hR, hr, ht, ht1, hb, hb6, hQ⟩
  refine And.intro rfl ?_
  refine And.intro (zA_40 hS) (zrdR (v := some 63) (zR_40_8 hR) ?_)
  refine And.intro (zA_63 hS) (zrd (v := t) ht ?_)
  refine And.intro (by omega) ⟨fun h7 => ?_, (fun h7 => False.elim (by omega))⟩
  refine And.intro (zA_40 hS) (zrdR (v := some 82) (zR_40_9 hR) ?_)
  refine And.intro (zA_82 hS) (zrd (v := (b - 1)) hb ?_)
  refine And.intro ⟨(by omega), (zRb rfl)⟩ ⟨(fun h28 => False.elim (by omega)), fun h28 => ?_⟩
  refine And.intro (zA_40 hS) (Exists.intro _ (And.intro (zinl_ok (zT11_1 3)) (And.intro rfl ?_)))
  refine And.intro (zRb rfl) (zbf rfl ?_)
  refine And.intro (zA_40 hS) ⟨_, (zWi (zRb rfl)), ?_⟩
  refine And.intro (zRb rfl) (zbf rfl ?_)
  refine hQ _ zxe (fun c j h0 => (zxcj h0 rfl)))
def T_A_brd : ZT := fun args I L R S Q => ∃ (d : JdS) (ob : Nat → Int) (x : Int) (y : Int) (z : Int) (sd : Int) (t : Int) (b : Nat), args = [zvr 40, zvi x, zvi y, zvi z, zvl sd] ∧ (zSh S) ∧ (zRs R) ∧ (zDA d ob I) ∧ (jGd d) ∧ (zCw d I) ∧ ((r32 x ∧ r32 y ∧ r32 z) ∧ r64 sd) ∧ (I 63 15 = t) ∧ (1 ≤ t ∧ t ≤ 10) ∧ (I 82 0 = b - 1) ∧ (b < 6) ∧ (I 88 1 = 40) ∧ (I 90 1 = 12) ∧ ∀ (v : Int) (I' : ZI) (L' : ZI), (v = b) → (zBA (b + 1) (bNew (bCl x 16) (bCl y 16) (bCl z 4) sd (bDj d)) I' L') → (I' 40 3 = 0) → (∀ c j : Nat, ¬ c = 82 → ¬ c = 83 → ¬ c = 84 → ¬ c = 85 → ¬ c = 86 → ¬ c = 87 → ¬ (c = 88 ∧ j = 2) → ¬ (c = 90 ∧ j = 2) → ¬ c = 94 → ¬ c = 95 → ¬ c = 96 → ¬ c = 97 → ¬ (c = 40 ∧ j = 3) → I' c j = I c j) → (∀ c j : Nat, ¬ c = 82 → L' c j = L c j) → Q (some (zvi (v))) I' L' R S
theorem sn_A_brd : ZSnd 5 11 5 T_A_brd := ZSnd.of (zT11_5 4) (by
  rintro args I L R S Q hz ⟨d, ob, x, y, z, sd, t, b, rfl, hS, hR, hDA, hJG, hCw, hr, ht, ht1, hb, hb6, h88, h90, hQ⟩
  refine And.intro rfl ?_
  refine And.intro (zA_40 hS) (zrdR (v := some 63) (zR_40_8 hR) ?_)
  refine And.intro (zA_63 hS) (zrd (v := t) ht ?_)
  refine And.intro (by omega) ⟨fun h7 => ?_, (fun h7 => False.elim (by omega))⟩
  refine And.intro (zA_40 hS) (zrdR (v := some 82) (zR_40_9 hR) ?_)
  refine And.intro (zA_82 hS) (zrd (v := (b - 1)) hb ?_)
  refine And.intro ⟨(by omega), (zRb rfl)⟩ ⟨fun h28 => ?_, (fun h28 => False.elim (by omega))⟩
  refine And.intro (zA_40 hS) (zrdR (v := some 82) (zR_40_9 hR) ?_)
  refine ⟨_, sn_A_wth.up (by decide), ?_⟩
  refine ⟨x, 16, rfl, ⟨hr.1.1, by omega⟩, ?_⟩
  refine ⟨_, sn_A_wth.up (by decide), ?_⟩
  refine ⟨y, 16, rfl, ⟨hr.1.2.1, by omega⟩, ?_⟩
  refine ⟨_, sn_A_wth.up (by decide), ?_⟩
  refine ⟨z, 4, rfl, ⟨hr.1.2.2, by omega⟩, ?_⟩
  refine And.intro (zA_82 hS) ⟨_, sn_A_begin.up (by decide), ?_⟩
  refine ⟨(bCl x 16), (bCl y 16), (bCl z 4), b, sd, rfl, hS, hR, (Eq.trans (b := ((b - 1) : Int)) hb (by omega)), h88, h90, (by have w1 := bCl_b (x := x) (m := 16) (by decide); have w2 := bCl_b (x := y) (m := 16) (by decide); have w3 := bCl_b (x := z) (m := 4) (by decide); omega), bCl_m, hr.2, (by omega), ?_⟩
  intro I60o L60o p60hBA2 p60bfr p60bbfrL
  refine And.intro (zA_40 hS) (zrdR (v := some 82) (zR_40_9 hR) ?_)
  refine And.intro (zA_40 hS) (zrdR (v := some 63) (zR_40_8 hR) ?_)
  refine And.intro (zA_82 hS) ⟨_, sn_A_tkN.up (by decide), ?_⟩
  refine ⟨d, ob, rfl, hS, hR, (by first | exact (zDA_fr hDA (fun c j h => ((p60bfr c j (by omega) (by omega) (by omega) (by omega) (by omega) (by omega) (by omega) (by omega) (by omega) (by omega) (by omega)).trans rfl))) | (clear hQ; grind [xu])), (by first | exact hJG | (clear hQ; grind [xu])), (by first | exact (zCw_fr hCw (fun c j h => ((p60bfr c j (by omega) (by omega) (by omega) (by omega) (by omega) (by omega) (by omega) (by omega) (by omega) (by omega) (by omega)).trans rfl))) | (clear hQ; grind [xu])), ?_⟩
  intro I71o p71hn p71bfr
  refine And.intro (zA_40 hS) (zrdR (v := some 82) (zR_40_9 hR) ?_)
  refine And.intro (zA_82 hS) (fun v79 e79 r79 => ?_)
  have f79 : v79 = ((b + 1 : Nat) : Int) - 1 := (e79.trans ((p71bfr 82 0 (by omega)).trans p60hBA2.1.1))
  have f79b : v79 = b := (by omega)
  refine And.intro (zA_40 hS) (Exists.intro _ (And.intro (zinl_ok (zT11_1 3)) (And.intro rfl ?_)))
  refine And.intro r79 ⟨fun h2_82 => ?_, (fun h2_82 => False.elim (by omega))⟩
  refine And.intro (zA_40 hS) ⟨_, (zWi (zRb rfl)), ?_⟩
  refine And.intro r79 ⟨fun h15_82 => ?_, (fun h15_82 => False.elim (by omega))⟩
  refine hQ _ _ _ (by omega) (zBA_nd p60hBA2 (fun q hq => zxu (by omega) (p71hn q hq)) (fun c j h => zxu (by omega) (p71bfr c j (by omega))) (fun c j h => rfl)) rfl (fun c j h0 h1 h2 h3 h4 h5 h6 h7 h8 h9 h10 h11 h12 => (zxcj h12 ((p71bfr c j (by omega)).trans ((p60bfr c j (by omega) (by omega) (by omega) (by omega) (by omega) (by omega) (by omega) (by omega) (by omega) (by omega) (by omega)).trans rfl)))) (fun c j h0 => ((p60bbfrL c j (by omega)).trans rfl)))
