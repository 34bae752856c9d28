/-! up -/
def T_E_tak : ZT := fun args I L R S Q => ∃ (k : Nat), args = [zvr 138, zvr k] ∧ (zSh S) ∧ (zRs R) ∧ (k = 130 ∨ k = 134) ∧ ∀ (I' : ZI) (R' : ZR), (R' 138 0 = some k) → (I' 138 8 = 0 ∧ I' 138 10 = 0 ∧ I' 138 13 = 0 ∧ I' 138 14 = -1 ∧ I' 138 15 = 0) → (∀ c j : Nat, ¬ (c = 138 ∧ j = 8) → ¬ (c = 138 ∧ j = 10) → ¬ (c = 138 ∧ j = 13) → ¬ (c = 138 ∧ j = 14) → ¬ (c = 138 ∧ j = 15) → I' c j = I c j) → (∀ c j : Nat, ¬ (c = 138 ∧ j = 0) → R' c j = R c j) → Q none I' L R' S
theorem sn_E_tak : ZSnd 2 4 27 T_E_tak := ZSnd.of (zT4_27 1) (by
  rintro args I L R S Q hz ⟨k, rfl, hS, hR, hk, hQ⟩
  have hk130 : 130 ≤ k := by omega
  have hk134 : k ≤ 134 := by omega
  refine And.intro rfl ?_
  refine And.intro (zA_138 hS) ?_
  have hR2 : zRs (xu R 138 0 (some k)) := zRs_xu hR (by decide +kernel)
  refine And.intro (zA_138 hS) ⟨_, (zWi (zRb rfl)), ?_⟩
  refine And.intro (zA_138 hS) ⟨_, (zWi (zRb rfl)), ?_⟩
  refine And.intro (zA_138 hS) (Exists.intro _ (And.intro (zinl_ok (zT4_5 0)) (And.intro rfl ?_)))
  refine And.intro (zA_138 hS) ⟨_, (zWi (zRb rfl)), ?_⟩
  refine And.intro (zA_138 hS) ⟨_, (zWi (zRb rfl)), ?_⟩
  refine And.intro (zA_138 hS) ⟨_, (zWi (zRb rfl)), ?_⟩
  refine hQ _ _ zxe ⟨(show _ = (0 : Int) from rfl), (show _ = (0 : Int) from rfl), (show _ = (0 : Int) from rfl), (show _ = ((-1) : Int) from rfl), (show _ = (0 : Int) from rfl)⟩ (fun c j h0 h1 h2 h3 h4 => (zxcj h4 (zxcj h3 (zxcj h2 (zxcj h1 (zxcj h0 rfl)))))) (fun c j h0 => (zxcj h0 rfl)))
def T_Z_err : ZT := fun args I L R S Q => ∃ (w : List Int) (D : DtT) (er : Int × Int × Int) (a : Int), args = [zvr 40, zvi a] ∧ (zSh S) ∧ (zRs R) ∧ (scA w D er I L R) ∧ (r32 a) ∧ ∀ (v : Int), (v = scEr er a) → Q (some (zvi (v))) I L R S
theorem sn_Z_err : ZSnd 2 11 16 T_Z_err := ZSnd.of (zT11_16 1) (by
  rintro args I L R S Q hz ⟨w, D, er, a, rfl, hS, hR, hA, ha, hQ⟩
  obtain ⟨k, k2, hkk, ⟨r15, r16, r0⟩, hE, cl, fn, vv, G, hC, hok, hvv, hRn⟩ := id hA
  obtain ⟨hV, ⟨⟨g8, g8b⟩, gou⟩, ⟨⟨g10, g10b⟩, gdm⟩, ⟨g13, g14, g15⟩⟩ := id hRn
  have g8c : D.2.1.1 ≤ 40 := g8b
  have g10c : D.2.2.1 ≤ 8 := g10b
  have gou : ∀ i, i < D.2.1.1 → zn (L 143 i) = D.2.1.2 i := gou
  have gdm : ∀ i, i < D.2.2.1 → zDm w.length (tC w) (scP (scX w) 0) (D.2.2.2 i) (I 144 i) := gdm
  obtain ⟨hE1, hE2, hE3⟩ := id hE
  have hn4 := hE2.1
  have hk : k = 130 ∨ k = 134 := by omega
  have hk130 : 130 ≤ k := by omega
  have hk134 : k ≤ 134 := by omega
  have hD : zDy zT8 zF8 k R S := by rcases hk with q | q; (rw [q]; exact zDy_130 hR hS); (rw [q]; exact zDy_134 hR hS)
  have hr1 : r32 er.1 := by rw [← g13]; exact hz.1 138 13
  have hr2 : r32 er.2.1 := by rw [← g14]; exact hz.1 138 14
  have hr3 : r32 er.2.2 := by rw [← g15]; exact hz.1 138 15
  obtain ⟨ha1, ha2⟩ : r32 a := ha
  refine And.intro rfl ?_
  refine And.intro (zA_40 hS) (zrdR (v := some 138) (zR_40_17 hR) ?_)
  refine And.intro (zA_138 hS) (Exists.intro _ (And.intro (zinl_ok (zT4_9 0)) (And.intro rfl ?_)))
  refine And.intro (by omega) (And.intro (And.intro (fun h1_5 => ?_) (And.intro (fun h1_5 => ?_) (And.intro (fun h1_5 => ?_) True.intro))) (fun h1_5 => ?_))
  · refine And.intro (zA_138 hS) (zrd (v := (er.1)) g13 ?_)
    refine hQ _ (by unfold scEr; first | (rw [if_pos (by omega)]) | (rw [if_neg (by omega), if_pos (by omega)]) | (rw [if_neg (by omega), if_neg (by omega), if_pos (by omega)]) | (rw [if_neg (by omega), if_neg (by omega), if_neg (by omega)]))
  · refine And.intro (zA_138 hS) (zrd (v := (er.2.1)) g14 ?_)
    refine hQ _ (by unfold scEr; first | (rw [if_pos (by omega)]) | (rw [if_neg (by omega), if_pos (by omega)]) | (rw [if_neg (by omega), if_neg (by omega), if_pos (by omega)]) | (rw [if_neg (by omega), if_neg (by omega), if_neg (by omega)]))
  · refine And.intro (zA_138 hS) (zrd (v := (er.2.2)) g15 ?_)
    refine hQ _ (by unfold scEr; first | (rw [if_pos (by omega)]) | (rw [if_neg (by omega), if_pos (by omega)]) | (rw [if_neg (by omega), if_neg (by omega), if_pos (by omega)]) | (rw [if_neg (by omega), if_neg (by omega), if_neg (by omega)]))
  · refine hQ _ (by unfold scEr; first | (rw [if_pos (by omega)]) | (rw [if_neg (by omega), if_pos (by omega)]) | (rw [if_neg (by omega), if_neg (by omega), if_pos (by omega)]) | (rw [if_neg (by omega), if_neg (by omega), if_neg (by omega)])))
def T_Z_out : ZT := fun args I L R S Q => ∃ (w : List Int) (D : DtT) (er : Int × Int × Int) (a : Int), args = [zvr 40, zvi a] ∧ (zSh S) ∧ (zRs R) ∧ (scA w D er I L R) ∧ (r32 a) ∧ ∀ (v : Int), (v = scOu D a) → Q (some (zvl (v))) I L R S
theorem sn_Z_out : ZSnd 1 11 32 T_Z_out := ZSnd.of (zT11_32 0) (by
  rintro args I L R S Q hz ⟨w, D, er, a, rfl, hS, hR, hA, ha, hQ⟩
  obtain ⟨k, k2, hkk, ⟨r15, r16, r0⟩, hE, cl, fn, vv, G, hC, hok, hvv, hRn⟩ := id hA
  obtain ⟨hV, ⟨⟨g8, g8b⟩, gou⟩, ⟨⟨g10, g10b⟩, gdm⟩, ⟨g13, g14, g15⟩⟩ := id hRn
  have g8c : D.2.1.1 ≤ 40 := g8b
  have g10c : D.2.2.1 ≤ 8 := g10b
  have gou : ∀ i, i < D.2.1.1 → zn (L 143 i) = D.2.1.2 i := gou
  have gdm : ∀ i, i < D.2.2.1 → zDm w.length (tC w) (scP (scX w) 0) (D.2.2.2 i) (I 144 i) := gdm
  obtain ⟨hE1, hE2, hE3⟩ := id hE
  have hn4 := hE2.1
  have hk : k = 130 ∨ k = 134 := by omega
  have hk130 : 130 ≤ k := by omega
  have hk134 : k ≤ 134 := by omega
  have hD : zDy zT8 zF8 k R S := by rcases hk with q | q; (rw [q]; exact zDy_130 hR hS); (rw [q]; exact zDy_134 hR hS)
  obtain ⟨ha1, ha2⟩ : r32 a := ha
  refine And.intro rfl ?_
  refine And.intro (by omega) ⟨fun h1 => ?_, fun h1 => ?_⟩
  · refine hQ _ (by unfold scOu; first | (rw [if_neg (by omega)]) | (rw [if_pos (by omega), ← gou a.toNat (by omega)]; first | rfl | exact congrArg zn e29 | (rw [e29])))
  · refine And.intro (zA_40 hS) (zrdR (v := some 138) (zR_40_17 hR) ?_)
    refine And.intro (zA_138 hS) (zrd (v := (D.2.1.1)) g8 ?_)
    refine And.intro ⟨(by omega), (by omega)⟩ ⟨fun h12 => ?_, fun h12 => ?_⟩
    · refine And.intro (zA_40 hS) (zrdR (v := some 138) (zR_40_17 hR) ?_)
      refine And.intro (zA_138 hS) (zrdR (v := some 143) (zR_138_7 hR) ?_)
      refine And.intro (zP_143 hS (by omega) (by omega)) (fun v29 e29 r29 => ?_)
      refine ⟨_, zWt _, ?_⟩
      refine And.intro (zn_r _) ?_
      refine hQ _ (by unfold scOu; first | (rw [if_neg (by omega)]) | (rw [if_pos (by omega), ← gou a.toNat (by omega)]; first | rfl | exact congrArg zn e29 | (rw [e29])))
    · refine hQ _ (by unfold scOu; first | (rw [if_neg (by omega)]) | (rw [if_pos (by omega), ← gou a.toNat (by omega)]; first | rfl | exact congrArg zn e29 | (rw [e29]))))
def T_Z_dmY : ZT := fun args I L R S Q => ∃ (w : List Int) (D : DtT) (er : Int × Int × Int) (j : Nat), args = [zvr 40, zvi j] ∧ (zSh S) ∧ (zRs R) ∧ (scA w D er I L R) ∧ (j < D.2.2.1) ∧ ∀ (v : Int) (I' : ZI), (v = scDe D.1 ((scX w).2.2.2.2.2.2.1 (D.2.2.2 j)).2.2.2.2.1) → (∀ c j : Nat, ¬ (c = 138 ∧ j = 16) → ¬ (c = 138 ∧ j = 17) → I' c j = I c j) → Q (some (zvi (v))) I' L R S
theorem sn_Z_dmY : ZSnd 28 11 12 T_Z_dmY := ZSnd.of (zT11_12 27) (by
  rintro args I L R S Q hz ⟨w, D, er, j, rfl, hS, hR, hA, hj, hQ⟩
  obtain ⟨k, k2, hkk, ⟨r15, r16, r0⟩, hE, cl, fn, vv, G, hC, hok, hvv, hRn⟩ := id hA
  obtain ⟨hV, ⟨⟨g8, g8b⟩, gou⟩, ⟨⟨g10, g10b⟩, gdm⟩, ⟨g13, g14, g15⟩⟩ := id hRn
  have g8c : D.2.1.1 ≤ 40 := g8b
  have g10c : D.2.2.1 ≤ 8 := g10b
  have gou : ∀ i, i < D.2.1.1 → zn (L 143 i) = D.2.1.2 i := gou
  have gdm : ∀ i, i < D.2.2.1 → zDm w.length (tC w) (scP (scX w) 0) (D.2.2.2 i) (I 144 i) := gdm
  obtain ⟨hE1, hE2, hE3⟩ := id hE
  have hn4 := hE2.1
  have hk : k = 130 ∨ k = 134 := by omega
  have hk130 : 130 ≤ k := by omega
  have hk134 : k ≤ 134 := by omega
  have hD : zDy zT8 zF8 k R S := by rcases hk with q | q; (rw [q]; exact zDy_130 hR hS); (rw [q]; exact zDy_134 hR hS)
  obtain ⟨p, hp1, hp2, hp3, hp4, hp5⟩ := zDm_R (gdm j hj)
  have hvD : vv = D.1.1 := hvv (by omega)
  subst hvD
  have hl9 : ((scX w).2.2.2.2.2.2.1 (D.2.2.2 j)).2.2.2.2.1 = (exEx (tC w) 3 (p + 1)).2.2 := by rw [hp3, (stO_s (by omega)).1]
  have h9 := evF_9 (E := D.1) (l := (exEx (tC w) 3 (p + 1)).2.2)
  refine And.intro rfl ?_
  refine And.intro (zA_40 hS) (zrdR (v := some 138) (zR_40_17 hR) ?_)
  refine And.intro (zA_138 hS) (Exists.intro _ (And.intro (zinl_ok (zT4_3 26)) (And.intro rfl ?_)))
  refine And.intro (by omega) ⟨(fun h1_5 => False.elim (by omega)), fun h1_5 => ?_⟩
  refine And.intro (zA_138 hS) (zrd (v := (D.2.2.1)) g10 ?_)
  refine And.intro ⟨(by omega), (by omega)⟩ ⟨fun h9_5 => ?_, (fun h9_5 => False.elim (by omega))⟩
  refine And.intro (zA_138 hS) (zrdR (v := some 144) (zR_138_9 hR) ?_)
  refine And.intro (zP_144 hS (by omega) (by omega)) (fun v20_5 e20_5 r20_5 => ?_)
  have f20_5 : v20_5 = p + 1 := (e20_5.trans ((congrArg (I 144) (by omega)).trans hp1))
  refine And.intro (zA_138 hS) ⟨_, (zWi r20_5), ?_⟩
  refine And.intro (zA_138 hS) ⟨_, (zWi (zRb rfl)), ?_⟩
  refine And.intro (zA_138 hS) ⟨_, sn_E_ex3.up (by decide), ?_⟩
  refine ⟨k, w.length, (tC w), (p + 1), 0, D.1, rfl, hS, hR, hD, (by clear hQ; grind [xu]), (zEt_fr hE (fun c j h => (zxcj (by omega) (zxcj (by omega) rfl)))), r0, (Eq.trans (b := (v20_5 : Int)) rfl (by omega)), rfl, (zEv_fr hV (fun c j h => (zxcj (by omega) (zxcj (by omega) rfl))) (fun c j h => rfl)), (by omega), hp5, ?_⟩
  intro v31_5o pz31_5o I31_5o p31_5hO p31_5bhv2 p31_5bbh16 p31_5bbbh17 p31_5bbbbfr
  have g31_5 : pz31_5o = (evF D.1 (exEx (tC w) 3 (p + 1)).2.2 : Nat) := (p31_5hO.2.1 rfl)
  refine And.intro (zA_138 hS) (zrd (v := pz31_5o) p31_5bbbh17 ?_)
  refine And.intro (by omega) ⟨fun h39_5 => ?_, fun h39_5 => ?_⟩
  · refine ⟨_, _, ⟨zW6i (by omega), zW6i (zRL rfl)⟩, fun z47_5 c47_5 => ?_⟩
    refine And.intro c47_5.2.2 ⟨fun h48_5 => ?_, fun h48_5 => ?_⟩
    · refine hQ _ _ (by rw [hl9]; unfold scDe; have y := p31_5hO.2.1 rfl; by_cases q : evF D.1 (exEx (tC w) 3 (p + 1)).2.2 = 0; (rw [if_pos q]; have z := p31_5hO.2.2 q; first | (exfalso; omega) | (rw [if_pos (by omega)]) | (rw [if_neg (by omega)])); (first | (exfalso; omega) | (rw [if_neg q]))) (fun c j h0 h1 => ((p31_5bbbbfr c j h0 h1).trans (zxcj h1 (zxcj h0 rfl))))
    · refine hQ _ _ (by rw [hl9]; unfold scDe; have y := p31_5hO.2.1 rfl; by_cases q : evF D.1 (exEx (tC w) 3 (p + 1)).2.2 = 0; (rw [if_pos q]; have z := p31_5hO.2.2 q; first | (exfalso; omega) | (rw [if_pos (by omega)]) | (rw [if_neg (by omega)])); (first | (exfalso; omega) | (rw [if_neg q]))) (fun c j h0 h1 => ((p31_5bbbbfr c j h0 h1).trans (zxcj h1 (zxcj h0 rfl))))
  · refine hQ _ _ (by rw [hl9]; unfold scDe; have y := p31_5hO.2.1 rfl; by_cases q : evF D.1 (exEx (tC w) 3 (p + 1)).2.2 = 0; (rw [if_pos q]; have z := p31_5hO.2.2 q; first | (exfalso; omega) | (rw [if_pos (by omega)]) | (rw [if_neg (by omega)])); (first | (exfalso; omega) | (rw [if_neg q]))) (fun c j h0 h1 => ((p31_5bbbbfr c j h0 h1).trans (zxcj h1 (zxcj h0 rfl)))))
def T_Z_dmN : ZT := fun args I L R S Q => ∃ (w : List Int) (D : DtT) (er : Int × Int × Int) (a : Int), args = [zvr 40, zvi a] ∧ (zSh S) ∧ (zRs R) ∧ (scA w D er I L R) ∧ (r32 a) ∧ (a < 0) ∧ Q (some (zvi (-1))) I L R S
theorem sn_Z_dmN : ZSnd 28 11 12 T_Z_dmN := ZSnd.of (zT11_12 27) (by
  rintro args I L R S Q hz ⟨w, D, er, a, rfl, hS, hR, hA, ha, hal, hQ⟩
  obtain ⟨k, k2, hkk, ⟨r15, r16, r0⟩, hE, cl, fn, vv, G, hC, hok, hvv, hRn⟩ := id hA
  obtain ⟨hV, ⟨⟨g8, g8b⟩, gou⟩, ⟨⟨g10, g10b⟩, gdm⟩, ⟨g13, g14, g15⟩⟩ := id hRn
  have g8c : D.2.1.1 ≤ 40 := g8b
  have g10c : D.2.2.1 ≤ 8 := g10b
  have gou : ∀ i, i < D.2.1.1 → zn (L 143 i) = D.2.1.2 i := gou
  have gdm : ∀ i, i < D.2.2.1 → zDm w.length (tC w) (scP (scX w) 0) (D.2.2.2 i) (I 144 i) := gdm
  obtain ⟨hE1, hE2, hE3⟩ := id hE
  have hn4 := hE2.1
  have hk : k = 130 ∨ k = 134 := by omega
  have hk130 : 130 ≤ k := by omega
  have hk134 : k ≤ 134 := by omega
  have hD : zDy zT8 zF8 k R S := by rcases hk with q | q; (rw [q]; exact zDy_130 hR hS); (rw [q]; exact zDy_134 hR hS)
  obtain ⟨ha1, ha2⟩ : r32 a := ha
  refine And.intro rfl ?_
  refine And.intro (zA_40 hS) (zrdR (v := some 138) (zR_40_17 hR) ?_)
  refine And.intro (zA_138 hS) (Exists.intro _ (And.intro (zinl_ok (zT4_3 26)) (And.intro rfl ?_)))
  refine And.intro (by omega) ⟨fun h1_5 => ?_, (fun h1_5 => False.elim (by omega))⟩
  refine hQ )
def T_Z_dmM : ZT := fun args I L R S Q => ∃ (w : List Int) (D : DtT) (er : Int × Int × Int) (a : Int), args = [zvr 40, zvi a] ∧ (zSh S) ∧ (zRs R) ∧ (scA w D er I L R) ∧ (r32 a) ∧ (D.2.2.1 ≤ a) ∧ Q (some (zvi (-1))) I L R S
theorem sn_Z_dmM : ZSnd 28 11 12 T_Z_dmM := ZSnd.of (zT11_12 27) (by
  rintro args I L R S Q hz ⟨w, D, er, a, rfl, hS, hR, hA, ha, hal, hQ⟩
  obtain ⟨k, k2, hkk, ⟨r15, r16, r0⟩, hE, cl, fn, vv, G, hC, hok, hvv, hRn⟩ := id hA
  obtain ⟨hV, ⟨⟨g8, g8b⟩, gou⟩, ⟨⟨g10, g10b⟩, gdm⟩, ⟨g13, g14, g15⟩⟩ := id hRn
  have g8c : D.2.1.1 ≤ 40 := g8b
  have g10c : D.2.2.1 ≤ 8 := g10b
  have gou : ∀ i, i < D.2.1.1 → zn (L 143 i) = D.2.1.2 i := gou
  have gdm : ∀ i, i < D.2.2.1 → zDm w.length (tC w) (scP (scX w) 0) (D.2.2.2 i) (I 144 i) := gdm
  obtain ⟨hE1, hE2, hE3⟩ := id hE
  have hn4 := hE2.1
  have hk : k = 130 ∨ k = 134 := by omega
  have hk130 : 130 ≤ k := by omega
  have hk134 : k ≤ 134 := by omega
  have hD : zDy zT8 zF8 k R S := by rcases hk with q | q; (rw [q]; exact zDy_130 hR hS); (rw [q]; exact zDy_134 hR hS)
  obtain ⟨ha1, ha2⟩ : r32 a := ha
  refine And.intro rfl ?_
  refine And.intro (zA_40 hS) (zrdR (v := some 138) (zR_40_17 hR) ?_)
  refine And.intro (zA_138 hS) (Exists.intro _ (And.intro (zinl_ok (zT4_3 26)) (And.intro rfl ?_)))
  refine And.intro (by omega) ⟨(fun h1_5 => False.elim (by omega)), fun h1_5 => ?_⟩
  refine And.intro (zA_138 hS) (zrd (v := (D.2.2.1)) g10 ?_)
  refine And.intro ⟨(by omega), (by omega)⟩ ⟨(fun h9_5 => False.elim (by omega)), fun h9_5 => ?_⟩
  refine hQ )
def T_Z_rnY : ZT := fun args I L R S Q => ∃ (w : List Int) (D : DtT) (er : Int × Int × Int) (lim : Nat), args = [zvr 40, zvi lim] ∧ (zSh S) ∧ (zRs R) ∧ (scA w D er I L R) ∧ (1 ≤ lim ∧ lim ≤ 300) ∧ ∀ (v : Int) (I' : ZI) (L' : ZI), (v = (scRn (scP (scX w) lim) D.1).2.1) → (I' 40 3 = 0) → (scA w (scRn (scP (scX w) lim) D.1).1 (scRn (scP (scX w) lim) D.1).2.2 I' L' R) → (∀ c j : Nat, ¬ (c = 40 ∧ j = 3) → ¬ (c = 138 ∧ j = 3) → ¬ (c = 138 ∧ j = 6) → ¬ (c = 138 ∧ j = 8) → ¬ (c = 138 ∧ j = 10) → ¬ (c = 138 ∧ j = 11) → ¬ (c = 138 ∧ j = 12) → ¬ (c = 138 ∧ j = 13) → ¬ (c = 138 ∧ j = 14) → ¬ (c = 138 ∧ j = 15) → ¬ (c = 138 ∧ j = 16) → ¬ (c = 138 ∧ j = 17) → ¬ c = 144 → I' c j = I c j) → (∀ c j : Nat, ¬ c = 139 → ¬ c = 140 → ¬ c = 141 → ¬ c = 142 → ¬ c = 143 → L' c j = L c j) → Q (some (zvi (v))) I' L' R S
theorem sn_Z_rnY : ZSnd 130 11 43 T_Z_rnY := ZSnd.of (zT11_43 129) (by
  rintro args I L R S Q hz ⟨w, D, er, lim, rfl, hS, hR, hA, hlm, hQ⟩
  obtain ⟨k, k2, hkk, ⟨r15, r16, r0⟩, hE, cl, fn, vv, G, hC, hok, hvv, hRn⟩ := id hA
  obtain ⟨hV, ⟨⟨g8, g8b⟩, gou⟩, ⟨⟨g10, g10b⟩, gdm⟩, ⟨g13, g14, g15⟩⟩ := id hRn
  have g8c : D.2.1.1 ≤ 40 := g8b
  have g10c : D.2.2.1 ≤ 8 := g10b
  have gou : ∀ i, i < D.2.1.1 → zn (L 143 i) = D.2.1.2 i := gou
  have gdm : ∀ i, i < D.2.2.1 → zDm w.length (tC w) (scP (scX w) 0) (D.2.2.2 i) (I 144 i) := gdm
  obtain ⟨hE1, hE2, hE3⟩ := id hE
  have hn4 := hE2.1
  have hk : k = 130 ∨ k = 134 := by omega
  have hk130 : 130 ≤ k := by omega
  have hk134 : k ≤ 134 := by omega
  have hD : zDy zT8 zF8 k R S := by rcases hk with q | q; (rw [q]; exact zDy_130 hR hS); (rw [q]; exact zDy_134 hR hS)
  refine And.intro rfl ?_
  refine And.intro ⟨(by omega), (zRb rfl)⟩ ⟨(fun h2 => False.elim (by omega)), fun h2 => ?_⟩
  refine And.intro ⟨(by omega), (zRb rfl)⟩ ⟨fun h9 => ?_, (fun h9 => False.elim (by omega))⟩
  refine And.intro (zA_40 hS) (zrdR (v := some 138) (zR_40_17 hR) ?_)
  refine And.intro (zA_138 hS) ⟨_, sn_E_go.up (by decide), ?_⟩
  refine ⟨k, w.length, (tC w), cl, fn, G, (scP (scX w) lim), (vv, D.1.2), lim, rfl, hS, hR, hD, (by clear hQ; grind [xu]), hE, r0, hC, (scOk_l hok lim), hV, rfl, (by omega), ?_⟩
  intro v25o I25o L25o p25hv p25bhR p25bbfr p25bbbfrL
  have g25 : v25o = (scRn (scP (scX w) lim) D.1).2.1 := p25hv
  have g25b : 0 ≤ v25o ∧ v25o ≤ 2 := (by rw [p25hv]; exact scRn_v (scOk_l hok lim))
  refine And.intro (zA_40 hS) (Exists.intro _ (And.intro (zinl_ok (zT11_1 128)) (And.intro rfl ?_)))
  refine And.intro (by omega) ⟨fun h2_28 => ?_, (fun h2_28 => False.elim (by omega))⟩
  refine And.intro (zA_40 hS) ⟨_, (zWi (zRb rfl)), ?_⟩
  refine And.intro (by omega) ⟨fun h15_28 => ?_, (fun h15_28 => False.elim (by omega))⟩
  refine hQ _ _ _ (by omega) (by first | exact zxe | exact (show _ = (0 : Int) from rfl)) ⟨k, k2, hkk, ⟨r15, r16, r0⟩, zEt_fr hE (fun c j h => (zxcj (by omega) ((p25bbfr c j (by omega) (by omega) (by omega) (by omega) (by omega) (by omega) (by omega) (by omega) (by omega) (by omega) (by omega) (by omega)).trans rfl))), cl, fn, (scRn (scP (scX w) lim) D.1).1.1.1, G, zCl_fr hC (fun c j h => (zxcj (by omega) ((p25bbfr c j (by omega) (by omega) (by omega) (by omega) (by omega) (by omega) (by omega) (by omega) (by omega) (by omega) (by omega) (by omega)).trans rfl))), hok, fun _ => rfl, zRn_fr p25bhR (fun c j h => zxcj (by omega) rfl) (fun c j h => rfl)⟩ (fun c j h0 h1 h2 h3 h4 h5 h6 h7 h8 h9 h10 h11 h12 => (zxcj h0 ((p25bbfr c j h1 h2 h3 h4 h5 h6 h7 h8 h9 h10 h11 h12).trans rfl))) (fun c j h0 h1 h2 h3 h4 => ((p25bbbfrL c j h0 h1 h2 h3 h4).trans rfl)))
def T_Z_rnN : ZT := fun args I L R S Q => ∃ (a : Int), args = [zvr 40, zvi a] ∧ (zSh S) ∧ (zRs R) ∧ (r32 a) ∧ (a < 1) ∧ ∀ (I' : ZI), (I' 40 3 = 2) → (∀ c j : Nat, ¬ (c = 40 ∧ j = 3) → I' c j = I c j) → Q (some (zvi (-1))) I' L R S
theorem sn_Z_rnN : ZSnd 4 11 43 T_Z_rnN := ZSnd.of (zT11_43 3) (by
  rintro args I L R S Q hz ⟨a, rfl, hS, hR, ha, hal, hQ⟩
  obtain ⟨ha1, ha2⟩ : r32 a := ha
  refine And.intro rfl ?_
  refine And.intro ⟨(by omega), (zRb rfl)⟩ ⟨fun h2 => ?_, (fun h2 => False.elim (by omega))⟩
  refine And.intro (zA_40 hS) (Exists.intro _ (And.intro (zinl_ok (zT11_1 2)) (And.intro rfl ?_)))
  refine And.intro (zRb rfl) (zbf rfl ?_)
  refine And.intro (zA_40 hS) ⟨_, (zWi (zRb rfl)), ?_⟩
  refine And.intro (zRb rfl) (zbf rfl ?_)
  refine hQ _ zxe (fun c j h0 => (zxcj h0 rfl)))
def T_Z_rnM : ZT := fun args I L R S Q => ∃ (a : Int), args = [zvr 40, zvi a] ∧ (zSh S) ∧ (zRs R) ∧ (r32 a) ∧ (300 < a) ∧ ∀ (I' : ZI), (I' 40 3 = 2) → (∀ c j : Nat, ¬ (c = 40 ∧ j = 3) → I' c j = I c j) → Q (some (zvi (-1))) I' L R S
theorem sn_Z_rnM : ZSnd 4 11 43 T_Z_rnM := ZSnd.of (zT11_43 3) (by
  rintro args I L R S Q hz ⟨a, rfl, hS, hR, ha, hal, hQ⟩
  obtain ⟨ha1, ha2⟩ : r32 a := ha
  refine And.intro rfl ?_
  refine And.intro ⟨(by omega), (zRb rfl)⟩ ⟨(fun h2 => False.elim (by omega)), fun h2 => ?_⟩
  refine And.intro ⟨(by omega), (zRb rfl)⟩ ⟨(fun h9 => False.elim (by omega)), fun h9 => ?_⟩
  refine And.intro (zA_40 hS) (Exists.intro _ (And.intro (zinl_ok (zT11_1 2)) (And.intro rfl ?_)))
  refine And.intro (zRb rfl) (zbf rfl ?_)
  refine And.intro (zA_40 hS) ⟨_, (zWi (zRb rfl)), ?_⟩
  refine And.intro (zRb rfl) (zbf rfl ?_)
  refine hQ _ zxe (fun c j h0 => (zxcj h0 rfl)))
def T_Z_pro : ZT := fun args I L R S Q => ∃ (tp : List Int) (k : Nat) (k2 : Nat), args = [zvr 40] ∧ (zSh S) ∧ (zRs R) ∧ (zTA tp I) ∧ (tGb tp) ∧ (zDy zT8 zF8 k2 R S) ∧ (k2 = 130 ∨ k2 = 134) ∧ (k = 130 ∨ k = 134) ∧ (R 40 15 = some k) ∧ (R 40 16 = some k2) ∧ ∀ (v : Int) (I' : ZI) (R' : ZR), (((ls0 (tC (tTk tp 400)) (-1) (1, 0, 0, (fun q => I (k2 + 2) q), (fun _ => -1))).1 = 0 ∧ v = -2 - ((ls0 (tC (tTk tp 400)) (-1) (1, 0, 0, (fun q => I (k2 + 2) q), (fun _ => -1))).2.1 : Nat) ∧ I' 40 3 = 2 ∧ R' = R ∧ ∀ j : Nat, I' 138 j = I 138 j) ∨ ((ls0 (tC (tTk tp 400)) (-1) (1, 0, 0, (fun q => I (k2 + 2) q), (fun _ => -1))).1 = 1 ∧ v = ((ls0 (tC (tTk tp 400)) (-1) (1, 0, 0, (fun q => I (k2 + 2) q), (fun _ => -1))).2.2.1 : Nat) ∧ I' 40 3 = 0 ∧ (R' 40 15 = some k2 ∧ R' 40 16 = some k ∧ R' 138 0 = some k2) ∧ (zEt k2 (tTk tp 400).length (tC (tTk tp 400)) I' ∧ zSr k2 410 (ls0 (tC (tTk tp 400)) (-1) (1, 0, 0, (fun q => I (k2 + 2) q), (fun _ => -1))) I') ∧ I' 138 8 = 0 ∧ I' 138 10 = 0 ∧ I' 138 13 = 0 ∧ I' 138 14 = -1 ∧ I' 138 15 = 0)) → (zTA [] I') → (∀ c j : Nat, ¬ (c = 40 ∧ j = 1) → ¬ (c = 40 ∧ j = 3) → ¬ c = 42 → ¬ (c = k2 ∧ j = 1) → ¬ (c = k2 ∧ j = 2) → ¬ (c = k2 ∧ j = 3) → ¬ (c = k2 ∧ j = 4) → ¬ c = k2 + 1 → ¬ c = k2 + 2 → ¬ c = k2 + 3 → ¬ (c = 138 ∧ j = 8) → ¬ (c = 138 ∧ j = 10) → ¬ (c = 138 ∧ j = 13) → ¬ (c = 138 ∧ j = 14) → ¬ (c = 138 ∧ j = 15) → I' c j = I c j) → (∀ c j : Nat, ¬ (c = 40 ∧ j = 15) → ¬ (c = 40 ∧ j = 16) → ¬ (c = 138 ∧ j = 0) → R' c j = R c j) → Q (some (zvi (v))) I' L R' S
theorem sn_Z_pro : ZSnd 132 11 33 T_Z_pro := ZSnd.of (zT11_33 131) (by
  rintro args I L R S Q hz ⟨tp, k, k2, rfl, hS, hR, hT, hg, hD, hk, hk1, r15, r16, hQ⟩
  have hk130 : 130 ≤ k2 := by omega
  have hk134 : k2 ≤ 134 := by omega
  have hj130 : 130 ≤ k := by omega
  have hj134 : k ≤ 134 := by omega
  have hok := sc_ok (tp := tp)
  have hn4 := hok.1.1
  refine And.intro rfl ?_
  refine And.intro (zA_40 hS) ⟨_, sn_Z_txt.up (by decide), ?_⟩
  refine ⟨tp, (400 : Int), 400, rfl, hS, hR, (by first | exact (zTA_fr hT (fun c j h => rfl)) | (clear hQ; grind [xu])), (by first | exact hg | (clear hQ; grind [xu])), (by omega), ?_⟩
  intro v4o I4o p4hv p4bhtx p4bbhT2 p4bbbfr
  have g4 : (fun q : Nat => I4o (k2 + 2) q) = (fun q : Nat => I (k2 + 2) q) := (funext (fun q => p4bbbfr _ _ (by omega) (by omega)))
  refine And.intro (zA_40 hS) (zrdR (v := some k2) r16 ?_)
  refine And.intro (zA_40 hS) (zrdR (v := some 42) (zR_40_2 hR) ?_)
  refine And.intro (zDX hD 0 rfl) ⟨_, sn_S_fin.up (by decide), ?_⟩
  refine ⟨k2, (tTk tp 400).length, (tC (tTk tp 400)), (v4o : Int), rfl, hS, hR, hD, hk, hok.1, p4bhtx, (by omega), hok.2, ?_⟩
  intro v17o I17o p17hv p17bhE2 p17bbhR p17bbbfr
  have g17 : zSr k2 410 (ls0 (tC (tTk tp 400)) (-1) (1, 0, 0, (fun q => I (k2 + 2) q), (fun _ => -1))) I17o := (by rw [← g4]; exact p17bbhR)
  have g17b : ((ls0 (tC (tTk tp 400)) (-1) (1, 0, 0, (fun q => I (k2 + 2) q), (fun _ => -1))).1 = 1 ∧ v17o = -1 ∧ I17o k2 4 = ((ls0 (tC (tTk tp 400)) (-1) (1, 0, 0, (fun q => I (k2 + 2) q), (fun _ => -1))).2.2.1 : Nat)) ∨ ((ls0 (tC (tTk tp 400)) (-1) (1, 0, 0, (fun q => I (k2 + 2) q), (fun _ => -1))).1 = 0 ∧ v17o = ((ls0 (tC (tTk tp 400)) (-1) (1, 0, 0, (fun q => I (k2 + 2) q), (fun _ => -1))).2.1 : Nat)) := (by rcases zSr_n g17 with q | q; exact Or.inl ⟨q.1, p17hv.trans q.2.2.1, q.2.2.2⟩; exact Or.inr ⟨q.1, p17hv.trans q.2.1⟩)
  have g17bb : (ls0 (tC (tTk tp 400)) (-1) (1, 0, 0, (fun q => I (k2 + 2) q), (fun _ => -1))).2.1 ≤ 400 ∧ ((ls0 (tC (tTk tp 400)) (-1) (1, 0, 0, (fun q => I (k2 + 2) q), (fun _ => -1))).1 = 1 → (ls0 (tC (tTk tp 400)) (-1) (1, 0, 0, (fun q => I (k2 + 2) q), (fun _ => -1))).2.2.1 ≤ 100) := (by have z := srV_n (ls0_V hok.1 (cl := -1) (p := 0) (x := (1, 0, 0, (fun q => I (k2 + 2) q), (fun _ => -1))) (Or.inl ⟨rfl, Nat.zero_le _, Nat.zero_le _, Nat.zero_le _⟩)); exact ⟨by omega, fun z1 => by omega⟩)
  have g17bbb : -1 ≤ v17o ∧ v17o ≤ 400 := (by have z := g17bb.1; rcases g17b with y | y; (have z1 := y.2.1; omega); (have z1 := y.2; omega))
  have g17bbbb : 0 ≤ I17o k2 4 ∧ I17o k2 4 ≤ 100 ∨ 0 ≤ v17o := (by rcases g17b with y | y; (have z := g17bb.2 y.1; have z1 := y.2.2; exact Or.inl ⟨by omega, by omega⟩); (have z1 := y.2; exact Or.inr (by omega)))
  refine And.intro ⟨(by omega), (zRb rfl)⟩ ⟨fun h23 => ?_, fun h23 => ?_⟩
  · have t23 : True := True.intro
    refine And.intro (zA_40 hS) (zrdR (v := some k) r15 ?_)
    refine And.intro (zA_40 hS) (zrdR (v := some k2) r16 ?_)
    refine And.intro (zA_40 hS) ?_
    have hR42 : zRs (xu R 40 15 (some k2)) := zRs_xu hR (by decide +kernel)
    refine And.intro (zA_40 hS) ?_
    have hR47 : zRs (xu (xu R 40 15 (some k2)) 40 16 (some k)) := zRs_xu hR42 (by decide +kernel)
    refine And.intro (zA_40 hS) (zrdR (v := some 138) (zR_40_17 hR47) ?_)
    refine And.intro (zA_40 hS) (zrdR (v := some k2) rfl ?_)
    refine And.intro (zA_138 hS) ⟨_, sn_E_tak.up (by decide), ?_⟩
    refine ⟨k2, rfl, hS, hR47, hk, ?_⟩
    intro I58o R58o p58h0 p58bh8 p58bbfr p58bbbfrR
    refine And.intro (zA_40 hS) (zrdR (v := some k2) ((p58bbbfrR 40 15 (by omega)).trans rfl) ?_)
    refine And.intro (zDX hD 0 rfl) (fun v66 e66 r66 => ?_)
    have f66 : v66 = I17o k2 4 := (e66.trans (p58bbfr k2 4 (by omega) (by omega) (by omega) (by omega) (by omega)))
    refine And.intro (zA_40 hS) (Exists.intro _ (And.intro (zinl_ok (zT11_1 130)) (And.intro rfl ?_)))
    refine And.intro r66 ⟨fun h2_69 => ?_, fun h2_69 => ?_⟩
    · refine And.intro (zA_40 hS) ⟨_, (zWi (zRb rfl)), ?_⟩
      refine And.intro r66 ⟨fun h15_69 => ?_, (fun h15_69 => False.elim (by omega))⟩
      refine hQ _ _ _ (by rcases g17b with y | y; (have z1 := y.2.2; exact Or.inr ⟨y.1, by omega, by first | exact zxe | exact (show _ = (0 : Int) from rfl), ⟨(p58bbbfrR 40 15 (by omega)).trans rfl, (p58bbbfrR 40 16 (by omega)).trans rfl, p58h0⟩, ⟨zEt_fr p17bhE2 (fun c j h => (zxcj (by omega) ((p58bbfr c j (by omega) (by omega) (by omega) (by omega) (by omega)).trans rfl))), zSr_fr g17 (fun c j h => (zxcj (by omega) ((p58bbfr c j (by omega) (by omega) (by omega) (by omega) (by omega)).trans rfl)))⟩, zxcj (by omega) p58bh8.1, zxcj (by omega) p58bh8.2.1, zxcj (by omega) p58bh8.2.2.1, zxcj (by omega) p58bh8.2.2.2.1, zxcj (by omega) p58bh8.2.2.2.2⟩); (exfalso; have z1 := y.2; omega)) (zTA_fr p4bbhT2 (fun c j h => (zxcj (by omega) ((p58bbfr c j (by omega) (by omega) (by omega) (by omega) (by omega)).trans ((p17bbbfr c j (by omega) (by omega) (by omega) (by omega) (by omega) (by omega) (by omega)).trans rfl))))) (fun c j h0 h1 h2 h3 h4 h5 h6 h7 h8 h9 h10 h11 h12 h13 h14 => (zxcj h1 ((p58bbfr c j h10 h11 h12 h13 h14).trans ((p17bbbfr c j h3 h7 h4 h5 h6 h8 h9).trans ((p4bbbfr c j h0 h2).trans rfl))))) (fun c j h0 h1 h2 => ((p58bbbfrR c j h2).trans (zxcj h1 (zxcj h0 rfl))))
    · exact False.elim (by omega)
  · refine And.intro (zA_40 hS) (Exists.intro _ (And.intro (zinl_ok (zT11_19 130)) (And.intro rfl ?_)))
    refine And.intro (zA_40 hS) ⟨_, (zWi (zRb rfl)), ?_⟩
    refine hQ _ _ _ (by rcases g17b with y | y; (exfalso; have z1 := y.2.1; omega); (have z1 := y.2; exact Or.inl ⟨y.1, by omega, zxe, rfl, fun j9 => (zxu (by omega) ((p17bbbfr 138 _ (by omega) (by omega) (by omega) (by omega) (by omega) (by omega) (by omega)).trans ((p4bbbfr 138 _ (by omega) (by omega)).trans rfl)))⟩)) (zTA_fr p4bbhT2 (fun c j h => (zxcj (by omega) ((p17bbbfr c j (by omega) (by omega) (by omega) (by omega) (by omega) (by omega) (by omega)).trans rfl)))) (fun c j h0 h1 h2 h3 h4 h5 h6 h7 h8 h9 h10 h11 h12 h13 h14 => (zxcj h1 ((p17bbbfr c j h3 h7 h4 h5 h6 h8 h9).trans ((p4bbbfr c j h0 h2).trans rfl)))) (fun c j h0 h1 h2 => rfl))
