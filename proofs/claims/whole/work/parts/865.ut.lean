/-! ut -/
def T_E_ask : ZT := fun args I L R S Q => ∃ (w : List Int) (D : DtT) (er : Int × Int × Int) (j : Nat), args = [zvr 138, zvi j] ∧ (zSh S) ∧ (zRs R) ∧ (scA w D er I L R) ∧ (j < D.2.2.1) ∧ ∀ (v : Int) (I' : ZI), (v = scDj w D j) → (∀ c j : Nat, ¬ (c = 138 ∧ j = 16) → ¬ (c = 138 ∧ j = 17) → I' c j = I c j) → Q (some (zvi (v))) I' L R S
theorem sn_E_ask : ZSnd 27 4 3 T_E_ask := ZSnd.of (zT4_3 26) (by
  rintro args I L R S Q hz ⟨w, D, er, j, rfl, hS, hR, hA, hj, hQ⟩
  obtain ⟨k, k2, hkk, ⟨r15, r16, r0⟩, hE, cl, fn, vv, G, hC, hok, hvv, hRn⟩ := id hA
  obtain ⟨hV, ⟨⟨g8, g8b⟩, gou⟩, ⟨⟨g10, g10b⟩, gdm⟩, ⟨g13, g14, g15⟩⟩ := id hRn
  have g8c : D.2.1.1 ≤ 40 := g8b
  have g10c : D.2.2.1 ≤ 8 := g10b
  have gou : ∀ i, i < D.2.1.1 → zn (L 143 i) = D.2.1.2 i := gou
  have gdm : ∀ i, i < D.2.2.1 → zDm w.length (tC w) (scP (scX w) 0) (D.2.2.2 i) (I 144 i) := gdm
  obtain ⟨hE1, hE2, hE3⟩ := id hE
  have hn4 := hE2.1
  have hk : k = 130 ∨ k = 134 := by omega
  have hk130 : 130 ≤ k := by omega
  have hk134 : k ≤ 134 := by omega
  have hD : zDy zT8 zF8 k R S := by rcases hk with q | q; (rw [q]; exact zDy_130 hR hS); (rw [q]; exact zDy_134 hR hS)
  obtain ⟨p, hp1, hp2, hp3, hp4, hp5⟩ := zDm_R (gdm j hj)
  have hvD : vv = D.1.1 := hvv (by omega)
  subst hvD
  have hl9 : ((scX w).2.2.2.2.2.2.1 (D.2.2.2 j)).2.2.2.2.1 = (exEx (tC w) 3 (p + 1)).2.2 := by rw [hp3, (stO_s (by omega)).1]
  have h9 := evF_9 (E := D.1) (l := (exEx (tC w) 3 (p + 1)).2.2)
  refine And.intro rfl ?_
  refine And.intro (by omega) ⟨(fun h1 => False.elim (by omega)), fun h1 => ?_⟩
  refine And.intro (zA_138 hS) (zrd (v := (D.2.2.1)) g10 ?_)
  refine And.intro ⟨(by omega), (by omega)⟩ ⟨fun h9 => ?_, (fun h9 => False.elim (by omega))⟩
  refine And.intro (zA_138 hS) (zrdR (v := some 144) (zR_138_9 hR) ?_)
  refine And.intro (zP_144 hS (by omega) (by omega)) (fun v20 e20 r20 => ?_)
  have f20 : v20 = p + 1 := (e20.trans ((congrArg (I 144) (by omega)).trans hp1))
  refine And.intro (zA_138 hS) ⟨_, (zWi r20), ?_⟩
  refine And.intro (zA_138 hS) ⟨_, (zWi (zRb rfl)), ?_⟩
  refine And.intro (zA_138 hS) ⟨_, sn_E_ex3.up (by decide), ?_⟩
  refine ⟨k, w.length, (tC w), (p + 1), 0, D.1, rfl, hS, hR, hD, (by clear hQ; grind [xu]), (zEt_fr hE (fun c j h => (zxcj (by omega) (zxcj (by omega) rfl)))), r0, (Eq.trans (b := (v20 : Int)) rfl (by omega)), rfl, (zEv_fr hV (fun c j h => (zxcj (by omega) (zxcj (by omega) rfl))) (fun c j h => rfl)), (by omega), hp5, ?_⟩
  intro v31o pz31o I31o p31hO p31bhv2 p31bbh16 p31bbbh17 p31bbbbfr
  have g31 : pz31o = (evF D.1 (exEx (tC w) 3 (p + 1)).2.2 : Nat) := (p31hO.2.1 rfl)
  refine And.intro (zA_138 hS) (zrd (v := pz31o) p31bbbh17 ?_)
  refine And.intro (by omega) ⟨fun h39 => ?_, fun h39 => ?_⟩
  · refine ⟨_, _, ⟨zW6i (by omega), zW6i (zRL rfl)⟩, fun z47 c47 => ?_⟩
    refine And.intro c47.2.2 ⟨fun h48 => ?_, fun h48 => ?_⟩
    · refine hQ _ _ (by unfold scDj; rw [hl9]; unfold scDe; have y := p31hO.2.1 rfl; by_cases q : evF D.1 (exEx (tC w) 3 (p + 1)).2.2 = 0; (rw [if_pos q]; have z := p31hO.2.2 q; first | (exfalso; omega) | (rw [if_pos (by omega)]) | (rw [if_neg (by omega)])); (first | (exfalso; omega) | (rw [if_neg q]))) (fun c j h0 h1 => ((p31bbbbfr c j h0 h1).trans (zxcj h1 (zxcj h0 rfl))))
    · refine hQ _ _ (by unfold scDj; rw [hl9]; unfold scDe; have y := p31hO.2.1 rfl; by_cases q : evF D.1 (exEx (tC w) 3 (p + 1)).2.2 = 0; (rw [if_pos q]; have z := p31hO.2.2 q; first | (exfalso; omega) | (rw [if_pos (by omega)]) | (rw [if_neg (by omega)])); (first | (exfalso; omega) | (rw [if_neg q]))) (fun c j h0 h1 => ((p31bbbbfr c j h0 h1).trans (zxcj h1 (zxcj h0 rfl))))
  · refine hQ _ _ (by unfold scDj; rw [hl9]; unfold scDe; have y := p31hO.2.1 rfl; by_cases q : evF D.1 (exEx (tC w) 3 (p + 1)).2.2 = 0; (rw [if_pos q]; have z := p31hO.2.2 q; first | (exfalso; omega) | (rw [if_pos (by omega)]) | (rw [if_neg (by omega)])); (first | (exfalso; omega) | (rw [if_neg q]))) (fun c j h0 h1 => ((p31bbbbfr c j h0 h1).trans (zxcj h1 (zxcj h0 rfl)))))
def T_E_adh : ZT := fun args I L R S Q => ∃ (w : List Int) (D : DtT) (er : Int × Int × Int), args = [zvr 138] ∧ (zSh S) ∧ (zRs R) ∧ (scA w D er I L R) ∧ ∀ (v : Int) (I' : ZI), (v = scDu w D 1) → (∀ c j : Nat, ¬ (c = 138 ∧ j = 16) → ¬ (c = 138 ∧ j = 17) → I' c j = I c j) → Q (some (zvi (v))) I' L R S
theorem sn_E_adh : ZSnd 28 4 2 T_E_adh := ZSnd.loops (zT4_2 27) (by
  rintro args I L R S Q hz ⟨w, D, er, rfl, hS, hR, hA, hQ⟩
  obtain ⟨k, k2, hkk, ⟨r15, r16, r0⟩, hE, cl, fn, vv, G, hC, hok, hvv, hRn⟩ := id hA
  obtain ⟨hV, ⟨⟨g8, g8b⟩, gou⟩, ⟨⟨g10, g10b⟩, gdm⟩, ⟨g13, g14, g15⟩⟩ := id hRn
  have g8c : D.2.1.1 ≤ 40 := g8b
  have g10c : D.2.2.1 ≤ 8 := g10b
  have gou : ∀ i, i < D.2.1.1 → zn (L 143 i) = D.2.1.2 i := gou
  have gdm : ∀ i, i < D.2.2.1 → zDm w.length (tC w) (scP (scX w) 0) (D.2.2.2 i) (I 144 i) := gdm
  obtain ⟨hE1, hE2, hE3⟩ := id hE
  have hn4 := hE2.1
  have hk : k = 130 ∨ k = 134 := by omega
  have hk130 : 130 ≤ k := by omega
  have hk134 : k ≤ 134 := by omega
  have hD : zDy zT8 zF8 k R S := by rcases hk with q | q; (rw [q]; exact zDy_130 hR hS); (rw [q]; exact zDy_134 hR hS)
  refine ⟨[4], fun nM tM lsM stM I1 L1 R1 S1 => match tM with
      | 4 => ∃ (i : Nat) (a : Int), nM = ((20 - i), 0, 0) ∧ lsM = [some (zvr (138)), some (zvi (a)), some (zvi (i))] ∧ stM = [] ∧ L1 = L ∧ R1 = R ∧ S1 = S ∧ (i ≤ D.2.2.1) ∧ (a = (adN (scDj w D) 1 i)) ∧ (0 ≤ a ∧ a ≤ 1) ∧ (∀ c j : Nat, ¬ (c = 138 ∧ j = 16) → ¬ (c = 138 ∧ j = 17) → I1 c j = I c j)
      | _ => False, rfl, ?_, ⟨?_, True.intro⟩⟩
  · refine ⟨((20 - (0 : Nat)), 0, 0), [some (zvr (138)), some (zvi ((1 : Int))), some (zvi ((0 : Nat)))], ⟨rfl, rfl, rfl, rfl⟩, 0, 1, rfl, rfl, rfl, rfl, rfl, rfl, (by omega), rfl, (by omega), (fun c j h0 h1 => rfl)⟩
  · rintro nM lsM stM I1 L1 R1 S1 hz1 ⟨i, a, rfl, rfl, rfl, rfl, rfl, rfl, hi, ha, hab, fr⟩
    have hA1 : scA w D er I1 L1 R1 := scA_fr hA (fun c j h => (by rcases h with h | h | h <;> exact fr c j (by omega) (by omega))) (fun c j h => rfl) ⟨rfl, rfl, rfl⟩
    have g10_1 : I1 138 10 = D.2.2.1 := (fr 138 10 (by omega) (by omega)).trans g10
    have had := adN_b (f := scDj w D) (Or.inr rfl : (1 : Int) = 0 ∨ (1 : Int) = 1) i
    have hdj := scDj_b (w := w) (D := D) (j := i)
    refine And.intro (zA_138 hS) (zrd (v := (D.2.2.1)) g10_1 ?_)
    refine And.intro ⟨(by omega), (by omega)⟩ ⟨fun h9 => ?_, fun h9 => ?_⟩
    · refine And.intro (by omega) ?_
      refine hQ _ _ (by unfold scDu; first | (have e9 : i = D.2.2.1 := (by omega); subst e9; rfl) | (rw [adN_z (i := i) (by omega) (by omega)]; omega) | (rw [show D.2.2.1 = i from by omega]; omega)) (fun c j h0 h1 => ((fr c j h0 h1).trans rfl))
    · refine And.intro (by omega) ⟨fun h13 => ?_, fun h13 => ?_⟩
      · refine And.intro (by omega) ?_
        refine hQ _ _ (by unfold scDu; first | (have e9 : i = D.2.2.1 := (by omega); subst e9; rfl) | (rw [adN_z (i := i) (by omega) (by omega)]; omega) | (rw [show D.2.2.1 = i from by omega]; omega)) (fun c j h0 h1 => ((fr c j h0 h1).trans rfl))
      · refine And.intro (zA_138 hS) ⟨_, sn_E_ask.up (by decide), ?_⟩
        refine ⟨w, D, er, i, rfl, hS, hR, hA1, (by omega), ?_⟩
        intro v18o I18o p18hv p18bfr
        have g18 : v18o = 0 ∨ v18o = 1 ∨ v18o = -2 := (by rw [p18hv]; exact scDj_b)
        refine And.intro ⟨(by omega), (zRb rfl)⟩ ⟨fun h22 => ?_, fun h22 => ?_⟩
        · refine ⟨((20 - (i + 1)), 0, 0), zlt6 (by omega), [some (zvr (138)), some (zvi ((0 : Int))), some (zvi ((i + 1)))], ⟨rfl, rfl, rfl, rfl⟩, (i + 1), 0, rfl, rfl, rfl, rfl, rfl, rfl, (by omega), (by first | exact (adN_1 (by omega) (by omega)).symm | exact (adN_0 (by omega)).symm), (by omega), (fun c j h0 h1 => ((p18bfr c j h0 h1).trans ((fr c j h0 h1).trans rfl)))⟩
        · refine ⟨((20 - (i + 1)), 0, 0), zlt6 (by omega), [some (zvr (138)), some (zvi ((1 : Int))), some (zvi ((i + 1)))], ⟨rfl, rfl, rfl, rfl⟩, (i + 1), 1, rfl, rfl, rfl, rfl, rfl, rfl, (by omega), (by first | exact (adN_1 (by omega) (by omega)).symm | exact (adN_0 (by omega)).symm), (by omega), (fun c j h0 h1 => ((p18bfr c j h0 h1).trans ((fr c j h0 h1).trans rfl)))⟩)
