/-! tz -/
def T_G_w20 : ZT := fun args I L R S Q => ∃ (g : Nat) (lim : Nat) (x : MsT) (i : Nat) (kc : Nat) (o : OrT), args = [zvr 234] ∧ (zSh S) ∧ (zRs R) ∧ (I 234 3 = g) ∧ (g ≤ 1) ∧ (zMs g lim x I L) ∧ (x.2.2.2.2.1 = i) ∧ (zOr g kc i o I) ∧ (kc ≤ 1000) ∧ (i ≤ 599) ∧ (o.1 = 20) ∧ ∀ (I' : ZI) (L' : ZI), (zMs g lim (x.1, x.2.1, (1, x.2.2.1.2), x.2.2.2.1, (x.2.2.2.2.1 + 1), x.2.2.2.2.2.1, x.2.2.2.2.2.2.1, x.2.2.2.2.2.2.2) I' L') → (∀ c j : Nat, ¬ (c = 234 ∧ j = 28) → ¬ (c = 234 ∧ j = 30) → ¬ (c = 234 ∧ j = 36) → ¬ (c = 234 ∧ j = 38) → ¬ (c = 234 ∧ j = 40) → ¬ (c = 234 ∧ j = 42) → ¬ (c = 234 ∧ j = 44) → ¬ (c = 234 ∧ j = 51) → ¬ (c = 234 ∧ j = 66) → ¬ (c = 234 ∧ j = 53) → ¬ (c = 234 ∧ j = 55) → ¬ (c = 234 ∧ j = 46) → ¬ (c = 234 ∧ j = 47) → ¬ (c = 234 ∧ j = 48) → ¬ (c = 234 ∧ j = 49) → ¬ (c = 234 ∧ j = 50) → ¬ (c = 234 ∧ j = 52) → ¬ (c = 234 ∧ j = 45) → ¬ c = 254 → ¬ c = 255 → ¬ c = 256 → ¬ c = 257 → ¬ c = 258 → ¬ c = 259 → ¬ c = 260 → ¬ c = 261 → ¬ c = 262 → ¬ c = 263 → ¬ c = 264 → ¬ c = 266 → I' c j = I c j) → (∀ c j : Nat, ¬ c = 251 → ¬ c = 252 → ¬ c = 253 → ¬ c = 265 → ¬ c = 267 → ¬ (c = 234 ∧ j = 65) → ¬ (c = 234 ∧ j = 35) → L' c j = L c j) → Q none I' L' R S
theorem sn_G_w20 : ZSnd 5 12 55 T_G_w20 := ZSnd.of (zT12_55 4) (by
  rintro args I L R S Q hz ⟨g, lim, x, i, kc, o, rfl, hS, hR, h3, hg, hM, hN, hO, hkc, hi6, hk1, hQ⟩
  obtain ⟨m1, m2, m3, m4, m5, m6, m7, ⟨m8, m8b⟩, m9, ⟨m10, m10b⟩, m11, m12, m13⟩ := id hM
  obtain ⟨hV1, ⟨hV2, hV2b⟩, hV3, ⟨hV4, hV4b⟩, hV5⟩ := id m1
  obtain ⟨hnx1, hnx2⟩ : r32 x.2.2.2.2.1 := by rw [← m7]; exact hz.1 234 52
  have m4a := m4.1
  have m4b := m4.2
  refine And.intro rfl ?_
  refine And.intro (zA_234 hS) (zrd (v := g) h3 ?_)
  refine And.intro (zA_234 hS) (zrd (v := (x.2.2.2.2.1)) m7 ?_)
  refine And.intro (zA_234 hS) (zrdR (v := some 238) (zR_234_6 hR) ?_)
  refine And.intro (zP_238 hS (by omega) (by omega)) (fun v19 e19 r19 => ?_)
  have f19 : v19 = 20 := (e19.trans ((congrArg (I 238) (by omega)).trans (hO.1.1.trans hk1)))
  refine And.intro (zA_234 hS) (zrd (v := (x.2.2.2.2.1)) m7 ?_)
  refine And.intro (zA_234 hS) ⟨_, (zWi (by omega)), ?_⟩
  refine And.intro r19 (And.intro (And.intro (fun h32 => False.elim (by omega)) (And.intro (fun h32 => False.elim (by omega)) (And.intro (fun h32 => False.elim (by omega)) (And.intro (fun h32 => False.elim (by omega)) (And.intro (fun h32 => False.elim (by omega)) (And.intro (fun h32 => False.elim (by omega)) (And.intro (fun h32 => False.elim (by omega)) (And.intro (fun h32 => False.elim (by omega)) (And.intro (fun h32 => False.elim (by omega)) (And.intro (fun h32 => False.elim (by omega)) (And.intro (fun h32 => False.elim (by omega)) (And.intro (fun h32 => False.elim (by omega)) (And.intro (fun h32 => ?_) True.intro))))))))))))) (fun h32 => False.elim (by omega)))
  refine And.intro ⟨(zA_234 hS), (Or.inr rfl)⟩ ?_
  refine hQ _ _ (zMs_c hM (fun c j h => (zxcj (by omega) (zxcj (by omega) rfl))) (fun c j h => rfl) m4.1 (show _ = (1 : Int) from rfl) ((zxcj (by omega) (zxcj (by omega) rfl)).trans m5.2) ((show _ = (((x.2.2.2.2.1) + 1) : Int) from rfl).trans (by omega)) ⟨((zxcj (by omega) (zxcj (by omega) rfl)).trans m8), m8b⟩ (fun i hi => ((zxcj (by omega) (zxcj (by omega) rfl)).trans (m9 i hi))) ⟨((zxcj (by omega) (zxcj (by omega) rfl)).trans m10), m10b⟩ (zHs_fr m11 (fun c j h1 h2 h3 => (zxcj (by omega) (zxcj (by omega) rfl))) (fun j hj => rfl)) (zc42 (zxcj (by omega) (zxcj (by omega) rfl)) m12)) (fun c j h0 h1 h2 h3 h4 h5 h6 h7 h8 h9 h10 h11 h12 h13 h14 h15 h16 h17 h18 h19 h20 h21 h22 h23 h24 h25 h26 h27 h28 h29 => (zxcj h14 (zxcj h16 rfl))) (fun c j h0 h1 h2 h3 h4 h5 h6 => rfl))
def T_G_w17 : ZT := fun args I L R S Q => ∃ (g : Nat) (lim : Nat) (x : MsT) (i : Nat) (kc : Nat) (o : OrT), args = [zvr 234] ∧ (zSh S) ∧ (zRs R) ∧ (I 234 3 = g) ∧ (g ≤ 1) ∧ (zMs g lim x I L) ∧ (x.2.2.2.2.1 = i) ∧ (zOr g kc i o I) ∧ (kc ≤ 1000) ∧ (i ≤ 599) ∧ (o.1 = 17) ∧ ∀ (I' : ZI) (L' : ZI), (zMs g lim (mNx x o.2.2.2.2.2) I' L') → (∀ c j : Nat, ¬ (c = 234 ∧ j = 28) → ¬ (c = 234 ∧ j = 30) → ¬ (c = 234 ∧ j = 36) → ¬ (c = 234 ∧ j = 38) → ¬ (c = 234 ∧ j = 40) → ¬ (c = 234 ∧ j = 42) → ¬ (c = 234 ∧ j = 44) → ¬ (c = 234 ∧ j = 51) → ¬ (c = 234 ∧ j = 66) → ¬ (c = 234 ∧ j = 53) → ¬ (c = 234 ∧ j = 55) → ¬ (c = 234 ∧ j = 46) → ¬ (c = 234 ∧ j = 47) → ¬ (c = 234 ∧ j = 48) → ¬ (c = 234 ∧ j = 49) → ¬ (c = 234 ∧ j = 50) → ¬ (c = 234 ∧ j = 52) → ¬ (c = 234 ∧ j = 45) → ¬ c = 254 → ¬ c = 255 → ¬ c = 256 → ¬ c = 257 → ¬ c = 258 → ¬ c = 259 → ¬ c = 260 → ¬ c = 261 → ¬ c = 262 → ¬ c = 263 → ¬ c = 264 → ¬ c = 266 → I' c j = I c j) → (∀ c j : Nat, ¬ c = 251 → ¬ c = 252 → ¬ c = 253 → ¬ c = 265 → ¬ c = 267 → ¬ (c = 234 ∧ j = 65) → ¬ (c = 234 ∧ j = 35) → L' c j = L c j) → Q none I' L' R S
theorem sn_G_w17 : ZSnd 5 12 55 T_G_w17 := ZSnd.of (zT12_55 4) (by
  rintro args I L R S Q hz ⟨g, lim, x, i, kc, o, rfl, hS, hR, h3, hg, hM, hN, hO, hkc, hi6, hk1, hQ⟩
  obtain ⟨m1, m2, m3, m4, m5, m6, m7, ⟨m8, m8b⟩, m9, ⟨m10, m10b⟩, m11, m12, m13⟩ := id hM
  obtain ⟨hV1, ⟨hV2, hV2b⟩, hV3, ⟨hV4, hV4b⟩, hV5⟩ := id m1
  obtain ⟨hnx1, hnx2⟩ : r32 x.2.2.2.2.1 := by rw [← m7]; exact hz.1 234 52
  have m4a := m4.1
  have m4b := m4.2
  refine And.intro rfl ?_
  refine And.intro (zA_234 hS) (zrd (v := g) h3 ?_)
  refine And.intro (zA_234 hS) (zrd (v := (x.2.2.2.2.1)) m7 ?_)
  refine And.intro (zA_234 hS) (zrdR (v := some 238) (zR_234_6 hR) ?_)
  refine And.intro (zP_238 hS (by omega) (by omega)) (fun v19 e19 r19 => ?_)
  have f19 : v19 = 17 := (e19.trans ((congrArg (I 238) (by omega)).trans (hO.1.1.trans hk1)))
  refine And.intro (zA_234 hS) (zrd (v := (x.2.2.2.2.1)) m7 ?_)
  refine And.intro (zA_234 hS) ⟨_, (zWi (by omega)), ?_⟩
  refine And.intro r19 (And.intro (And.intro (fun h32 => False.elim (by omega)) (And.intro (fun h32 => False.elim (by omega)) (And.intro (fun h32 => False.elim (by omega)) (And.intro (fun h32 => False.elim (by omega)) (And.intro (fun h32 => False.elim (by omega)) (And.intro (fun h32 => False.elim (by omega)) (And.intro (fun h32 => False.elim (by omega)) (And.intro (fun h32 => False.elim (by omega)) (And.intro (fun h32 => False.elim (by omega)) (And.intro (fun h32 => ?_) (And.intro (fun h32 => False.elim (by omega)) (And.intro (fun h32 => False.elim (by omega)) (And.intro (fun h32 => False.elim (by omega)) True.intro))))))))))))) (fun h32 => False.elim (by omega)))
  refine And.intro (zA_234 hS) (zrdR (v := some 243) (zR_234_11 hR) ?_)
  refine And.intro (zP_243 hS (by omega) (by omega)) (fun v112 e112 r112 => ?_)
  have f112 : v112 = o.2.2.2.2.2 := (e112.trans ((zxcj (by omega) rfl).trans ((congrArg (I 243) (by omega)).trans hO.1.2.2.2)))
  refine And.intro (zA_234 hS) ⟨_, (zWi r112), ?_⟩
  refine hQ _ _ (zMs_n hM ((show _ = (v112 : Int) from rfl).trans (by omega)) (fun c j h => (zxcj (by omega) (zxcj (by omega) rfl)))) (fun c j h0 h1 h2 h3 h4 h5 h6 h7 h8 h9 h10 h11 h12 h13 h14 h15 h16 h17 h18 h19 h20 h21 h22 h23 h24 h25 h26 h27 h28 h29 => (zxcj h16 (zxcj h16 rfl))) (fun c j h0 h1 h2 h3 h4 h5 h6 => rfl))
def T_G_w19 : ZT := fun args I L R S Q => ∃ (g : Nat) (lim : Nat) (x : MsT) (i : Nat) (kc : Nat) (o : OrT), args = [zvr 234] ∧ (zSh S) ∧ (zRs R) ∧ (I 234 3 = g) ∧ (g ≤ 1) ∧ (zMs g lim x I L) ∧ (x.2.2.2.2.1 = i) ∧ (zOr g kc i o I) ∧ (kc ≤ 1000) ∧ (i ≤ 599) ∧ (o.1 = 19) ∧ (1 ≤ x.2.2.2.2.2.1) ∧ ∀ (I' : ZI) (L' : ZI), (zMs g lim (x.1, x.2.1, x.2.2.1, x.2.2.2.1, x.2.2.2.2.2.2.1 (x.2.2.2.2.2.1 - 1), x.2.2.2.2.2.1 - 1, x.2.2.2.2.2.2.1, x.2.2.2.2.2.2.2) I' L') → (∀ c j : Nat, ¬ (c = 234 ∧ j = 28) → ¬ (c = 234 ∧ j = 30) → ¬ (c = 234 ∧ j = 36) → ¬ (c = 234 ∧ j = 38) → ¬ (c = 234 ∧ j = 40) → ¬ (c = 234 ∧ j = 42) → ¬ (c = 234 ∧ j = 44) → ¬ (c = 234 ∧ j = 51) → ¬ (c = 234 ∧ j = 66) → ¬ (c = 234 ∧ j = 53) → ¬ (c = 234 ∧ j = 55) → ¬ (c = 234 ∧ j = 46) → ¬ (c = 234 ∧ j = 47) → ¬ (c = 234 ∧ j = 48) → ¬ (c = 234 ∧ j = 49) → ¬ (c = 234 ∧ j = 50) → ¬ (c = 234 ∧ j = 52) → ¬ (c = 234 ∧ j = 45) → ¬ c = 254 → ¬ c = 255 → ¬ c = 256 → ¬ c = 257 → ¬ c = 258 → ¬ c = 259 → ¬ c = 260 → ¬ c = 261 → ¬ c = 262 → ¬ c = 263 → ¬ c = 264 → ¬ c = 266 → I' c j = I c j) → (∀ c j : Nat, ¬ c = 251 → ¬ c = 252 → ¬ c = 253 → ¬ c = 265 → ¬ c = 267 → ¬ (c = 234 ∧ j = 65) → ¬ (c = 234 ∧ j = 35) → L' c j = L c j) → Q none I' L' R S
theorem sn_G_w19 : ZSnd 5 12 55 T_G_w19 := ZSnd.of (zT12_55 4) (by
  rintro args I L R S Q hz ⟨g, lim, x, i, kc, o, rfl, hS, hR, h3, hg, hM, hN, hO, hkc, hi6, hk1, hc1, hQ⟩
  obtain ⟨m1, m2, m3, m4, m5, m6, m7, ⟨m8, m8b⟩, m9, ⟨m10, m10b⟩, m11, m12, m13⟩ := id hM
  obtain ⟨hV1, ⟨hV2, hV2b⟩, hV3, ⟨hV4, hV4b⟩, hV5⟩ := id m1
  obtain ⟨hnx1, hnx2⟩ : r32 x.2.2.2.2.1 := by rw [← m7]; exact hz.1 234 52
  have m4a := m4.1
  have m4b := m4.2
  refine And.intro rfl ?_
  refine And.intro (zA_234 hS) (zrd (v := g) h3 ?_)
  refine And.intro (zA_234 hS) (zrd (v := (x.2.2.2.2.1)) m7 ?_)
  refine And.intro (zA_234 hS) (zrdR (v := some 238) (zR_234_6 hR) ?_)
  refine And.intro (zP_238 hS (by omega) (by omega)) (fun v19 e19 r19 => ?_)
  have f19 : v19 = 19 := (e19.trans ((congrArg (I 238) (by omega)).trans (hO.1.1.trans hk1)))
  refine And.intro (zA_234 hS) (zrd (v := (x.2.2.2.2.1)) m7 ?_)
  refine And.intro (zA_234 hS) ⟨_, (zWi (by omega)), ?_⟩
  refine And.intro r19 (And.intro (And.intro (fun h32 => False.elim (by omega)) (And.intro (fun h32 => False.elim (by omega)) (And.intro (fun h32 => False.elim (by omega)) (And.intro (fun h32 => False.elim (by omega)) (And.intro (fun h32 => False.elim (by omega)) (And.intro (fun h32 => False.elim (by omega)) (And.intro (fun h32 => False.elim (by omega)) (And.intro (fun h32 => False.elim (by omega)) (And.intro (fun h32 => False.elim (by omega)) (And.intro (fun h32 => False.elim (by omega)) (And.intro (fun h32 => False.elim (by omega)) (And.intro (fun h32 => ?_) (And.intro (fun h32 => False.elim (by omega)) True.intro))))))))))))) (fun h32 => False.elim (by omega)))
  refine And.intro (zA_234 hS) (zrd (v := (x.2.2.2.2.2.1)) m8 ?_)
  refine And.intro (zA_234 hS) ⟨_, (zWi (by omega)), ?_⟩
  refine And.intro (zA_234 hS) (zrdR (v := some 258) (zR_234_54 hR) ?_)
  refine And.intro (zA_234 hS) (zrd (v := ((x.2.2.2.2.2.1) - 1)) rfl ?_)
  refine And.intro (zP_258 hS (by omega) (by omega)) (fun v136 e136 r136 => ?_)
  have f136 : v136 = x.2.2.2.2.2.2.1 (x.2.2.2.2.2.1 - 1) := (e136.trans ((zxcj (by omega) (zxcj (by omega) rfl)).trans ((congrArg (I 258) (by omega)).trans (m9 (x.2.2.2.2.2.1 - 1) (by omega)))))
  refine And.intro (zA_234 hS) ⟨_, (zWi r136), ?_⟩
  refine hQ _ _ (zMs_c hM (fun c j h => (zxcj (by omega) (zxcj (by omega) (zxcj (by omega) rfl)))) (fun c j h => rfl) m4.1 ((zxcj (by omega) (zxcj (by omega) (zxcj (by omega) rfl))).trans m5.1) ((zxcj (by omega) (zxcj (by omega) (zxcj (by omega) rfl))).trans m5.2) ((show _ = (v136 : Int) from rfl).trans (by omega)) ⟨(show _ = (((x.2.2.2.2.2.1) - 1) : Int) from rfl).trans (by omega), by omega⟩ (fun i hi => ((zxcj (by omega) (zxcj (by omega) (zxcj (by omega) rfl))).trans (m9 i hi))) ⟨((zxcj (by omega) (zxcj (by omega) (zxcj (by omega) rfl))).trans m10), m10b⟩ (zHs_fr m11 (fun c j h1 h2 h3 => (zxcj (by omega) (zxcj (by omega) (zxcj (by omega) rfl)))) (fun j hj => rfl)) (zc42 (zxcj (by omega) (zxcj (by omega) (zxcj (by omega) rfl))) m12)) (fun c j h0 h1 h2 h3 h4 h5 h6 h7 h8 h9 h10 h11 h12 h13 h14 h15 h16 h17 h18 h19 h20 h21 h22 h23 h24 h25 h26 h27 h28 h29 => (zxcj h16 (zxcj h9 (zxcj h16 rfl)))) (fun c j h0 h1 h2 h3 h4 h5 h6 => rfl))
def T_G_w8 : ZT := fun args I L R S Q => ∃ (g : Nat) (lim : Nat) (x : MsT) (i : Nat) (kc : Nat) (o : OrT), args = [zvr 234] ∧ (zSh S) ∧ (zRs R) ∧ (I 234 3 = g) ∧ (g ≤ 1) ∧ (zMs g lim x I L) ∧ (x.2.2.2.2.1 = i) ∧ (zOr g kc i o I) ∧ (kc ≤ 1000) ∧ (i ≤ 599) ∧ (o.1 = 8) ∧ (1 ≤ x.2.2.2.2.2.2.2.length) ∧ ∀ (I' : ZI) (L' : ZI), (zMs g lim (x.1, x.2.1, x.2.2.1, x.2.2.2.1, (x.2.2.2.2.1 + 1), x.2.2.2.2.2.1, x.2.2.2.2.2.2.1, x.2.2.2.2.2.2.2.drop 1) I' L') → (∀ c j : Nat, ¬ (c = 234 ∧ j = 28) → ¬ (c = 234 ∧ j = 30) → ¬ (c = 234 ∧ j = 36) → ¬ (c = 234 ∧ j = 38) → ¬ (c = 234 ∧ j = 40) → ¬ (c = 234 ∧ j = 42) → ¬ (c = 234 ∧ j = 44) → ¬ (c = 234 ∧ j = 51) → ¬ (c = 234 ∧ j = 66) → ¬ (c = 234 ∧ j = 53) → ¬ (c = 234 ∧ j = 55) → ¬ (c = 234 ∧ j = 46) → ¬ (c = 234 ∧ j = 47) → ¬ (c = 234 ∧ j = 48) → ¬ (c = 234 ∧ j = 49) → ¬ (c = 234 ∧ j = 50) → ¬ (c = 234 ∧ j = 52) → ¬ (c = 234 ∧ j = 45) → ¬ c = 254 → ¬ c = 255 → ¬ c = 256 → ¬ c = 257 → ¬ c = 258 → ¬ c = 259 → ¬ c = 260 → ¬ c = 261 → ¬ c = 262 → ¬ c = 263 → ¬ c = 264 → ¬ c = 266 → I' c j = I c j) → (∀ c j : Nat, ¬ c = 251 → ¬ c = 252 → ¬ c = 253 → ¬ c = 265 → ¬ c = 267 → ¬ (c = 234 ∧ j = 65) → ¬ (c = 234 ∧ j = 35) → L' c j = L c j) → Q none I' L' R S
theorem sn_G_w8 : ZSnd 5 12 55 T_G_w8 := ZSnd.of (zT12_55 4) (by
  rintro args I L R S Q hz ⟨g, lim, x, i, kc, o, rfl, hS, hR, h3, hg, hM, hN, hO, hkc, hi6, hk1, h1, hQ⟩
  obtain ⟨m1, m2, m3, m4, m5, m6, m7, ⟨m8, m8b⟩, m9, ⟨m10, m10b⟩, m11, m12, m13⟩ := id hM
  obtain ⟨hV1, ⟨hV2, hV2b⟩, hV3, ⟨hV4, hV4b⟩, hV5⟩ := id m1
  obtain ⟨hnx1, hnx2⟩ : r32 x.2.2.2.2.1 := by rw [← m7]; exact hz.1 234 52
  have m4a := m4.1
  have m4b := m4.2
  obtain ⟨b1, b2⟩ := zHs_h m11 h1
  refine And.intro rfl ?_
  refine And.intro (zA_234 hS) (zrd (v := g) h3 ?_)
  refine And.intro (zA_234 hS) (zrd (v := (x.2.2.2.2.1)) m7 ?_)
  refine And.intro (zA_234 hS) (zrdR (v := some 238) (zR_234_6 hR) ?_)
  refine And.intro (zP_238 hS (by omega) (by omega)) (fun v19 e19 r19 => ?_)
  have f19 : v19 = 8 := (e19.trans ((congrArg (I 238) (by omega)).trans (hO.1.1.trans hk1)))
  refine And.intro (zA_234 hS) (zrd (v := (x.2.2.2.2.1)) m7 ?_)
  refine And.intro (zA_234 hS) ⟨_, (zWi (by omega)), ?_⟩
  refine And.intro r19 (And.intro (And.intro (fun h32 => ?_) (And.intro (fun h32 => False.elim (by omega)) (And.intro (fun h32 => False.elim (by omega)) (And.intro (fun h32 => False.elim (by omega)) (And.intro (fun h32 => False.elim (by omega)) (And.intro (fun h32 => False.elim (by omega)) (And.intro (fun h32 => False.elim (by omega)) (And.intro (fun h32 => False.elim (by omega)) (And.intro (fun h32 => False.elim (by omega)) (And.intro (fun h32 => False.elim (by omega)) (And.intro (fun h32 => False.elim (by omega)) (And.intro (fun h32 => False.elim (by omega)) (And.intro (fun h32 => False.elim (by omega)) True.intro))))))))))))) (fun h32 => False.elim (by omega)))
  refine And.intro (zA_234 hS) (zrdR (v := some 239) (zR_234_7 hR) ?_)
  refine And.intro (zP_239 hS (by omega) (by omega)) (fun v147 e147 r147 => ?_)
  refine And.intro (zA_234 hS) ⟨_, sn_G_ena.up (by decide), ?_⟩
  refine ⟨x.2.2.2.2.2.2.2, x.1.1, x.2.2.2.2.2.1, (v147 : Int), rfl, hS, hR, (Eq.trans (b := ((x.2.2.2.2.2.2.2.length) : Int)) m10 (by omega)), (by omega), (zHs_fr m11 (fun c j h1 h2 h3 => (zxcj (by omega) rfl)) (fun j hj => rfl)), (zRv_fr m1 (fun c j h => (zxcj (by omega) rfl)) (fun c j h => rfl)), m8, (by omega), (by omega), (Eq.trans (b := ((-1) : Int)) m13 (by omega)), ?_⟩
  intro I148o p148g55 p148bfr
  refine hQ _ _ (zMs_c hM (fun c j h => ((p148bfr c j (by omega)).trans (zxcj (by omega) rfl))) (fun c j h => rfl) m4.1 (((p148bfr _ _ (by omega)).trans (zxcj (by omega) rfl)).trans m5.1) (((p148bfr _ _ (by omega)).trans (zxcj (by omega) rfl)).trans m5.2) ((show _ = (((x.2.2.2.2.1) + 1) : Int) from ((p148bfr 234 52 (by omega)).trans rfl)).trans (by omega)) ⟨(((p148bfr _ _ (by omega)).trans (zxcj (by omega) rfl)).trans m8), m8b⟩ (fun i hi => (((p148bfr _ _ (by omega)).trans (zxcj (by omega) rfl)).trans (m9 i hi))) ⟨(show _ = (((x.2.2.2.2.2.2.2).length - 1) : Int) from p148g55).trans (by rw [hs_drop]; omega), by rw [hs_drop]; omega⟩ (zHs_fr b2 (fun c j h1 h2 h3 => ((p148bfr c j (by omega)).trans (zxcj (by omega) rfl))) (fun j hj => rfl)) (zc42 ((p148bfr _ _ (by omega)).trans (zxcj (by omega) rfl)) m12)) (fun c j h0 h1 h2 h3 h4 h5 h6 h7 h8 h9 h10 h11 h12 h13 h14 h15 h16 h17 h18 h19 h20 h21 h22 h23 h24 h25 h26 h27 h28 h29 => ((p148bfr c j h10).trans (zxcj h16 rfl))) (fun c j h0 h1 h2 h3 h4 h5 h6 => rfl))
def T_G_w10 : ZT := fun args I L R S Q => ∃ (g : Nat) (lim : Nat) (x : MsT) (i : Nat) (kc : Nat) (o : OrT), args = [zvr 234] ∧ (zSh S) ∧ (zRs R) ∧ (I 234 3 = g) ∧ (g ≤ 1) ∧ (zMs g lim x I L) ∧ (x.2.2.2.2.1 = i) ∧ (zOr g kc i o I) ∧ (kc ≤ 1000) ∧ (i ≤ 599) ∧ (o.1 = 10) ∧ (1 ≤ x.2.2.2.2.2.2.2.length) ∧ ∀ (I' : ZI) (L' : ZI), (zMs g lim (x.1, x.2.1, x.2.2.1, x.2.2.2.1, (x.2.2.2.2.1 + 1), x.2.2.2.2.2.1, x.2.2.2.2.2.2.1, (10, (hdH x.2.2.2.2.2.2.2).2) :: x.2.2.2.2.2.2.2.drop 1) I' L') → (∀ c j : Nat, ¬ (c = 234 ∧ j = 28) → ¬ (c = 234 ∧ j = 30) → ¬ (c = 234 ∧ j = 36) → ¬ (c = 234 ∧ j = 38) → ¬ (c = 234 ∧ j = 40) → ¬ (c = 234 ∧ j = 42) → ¬ (c = 234 ∧ j = 44) → ¬ (c = 234 ∧ j = 51) → ¬ (c = 234 ∧ j = 66) → ¬ (c = 234 ∧ j = 53) → ¬ (c = 234 ∧ j = 55) → ¬ (c = 234 ∧ j = 46) → ¬ (c = 234 ∧ j = 47) → ¬ (c = 234 ∧ j = 48) → ¬ (c = 234 ∧ j = 49) → ¬ (c = 234 ∧ j = 50) → ¬ (c = 234 ∧ j = 52) → ¬ (c = 234 ∧ j = 45) → ¬ c = 254 → ¬ c = 255 → ¬ c = 256 → ¬ c = 257 → ¬ c = 258 → ¬ c = 259 → ¬ c = 260 → ¬ c = 261 → ¬ c = 262 → ¬ c = 263 → ¬ c = 264 → ¬ c = 266 → I' c j = I c j) → (∀ c j : Nat, ¬ c = 251 → ¬ c = 252 → ¬ c = 253 → ¬ c = 265 → ¬ c = 267 → ¬ (c = 234 ∧ j = 65) → ¬ (c = 234 ∧ j = 35) → L' c j = L c j) → Q none I' L' R S
theorem sn_G_w10 : ZSnd 5 12 55 T_G_w10 := ZSnd.of (zT12_55 4) (by
  rintro args I L R S Q hz ⟨g, lim, x, i, kc, o, rfl, hS, hR, h3, hg, hM, hN, hO, hkc, hi6, hk1, h1, hQ⟩
  obtain ⟨m1, m2, m3, m4, m5, m6, m7, ⟨m8, m8b⟩, m9, ⟨m10, m10b⟩, m11, m12, m13⟩ := id hM
  obtain ⟨hV1, ⟨hV2, hV2b⟩, hV3, ⟨hV4, hV4b⟩, hV5⟩ := id m1
  obtain ⟨hnx1, hnx2⟩ : r32 x.2.2.2.2.1 := by rw [← m7]; exact hz.1 234 52
  have m4a := m4.1
  have m4b := m4.2
  refine And.intro rfl ?_
  refine And.intro (zA_234 hS) (zrd (v := g) h3 ?_)
  refine And.intro (zA_234 hS) (zrd (v := (x.2.2.2.2.1)) m7 ?_)
  refine And.intro (zA_234 hS) (zrdR (v := some 238) (zR_234_6 hR) ?_)
  refine And.intro (zP_238 hS (by omega) (by omega)) (fun v19 e19 r19 => ?_)
  have f19 : v19 = 10 := (e19.trans ((congrArg (I 238) (by omega)).trans (hO.1.1.trans hk1)))
  refine And.intro (zA_234 hS) (zrd (v := (x.2.2.2.2.1)) m7 ?_)
  refine And.intro (zA_234 hS) ⟨_, (zWi (by omega)), ?_⟩
  refine And.intro r19 (And.intro (And.intro (fun h32 => False.elim (by omega)) (And.intro (fun h32 => False.elim (by omega)) (And.intro (fun h32 => ?_) (And.intro (fun h32 => False.elim (by omega)) (And.intro (fun h32 => False.elim (by omega)) (And.intro (fun h32 => False.elim (by omega)) (And.intro (fun h32 => False.elim (by omega)) (And.intro (fun h32 => False.elim (by omega)) (And.intro (fun h32 => False.elim (by omega)) (And.intro (fun h32 => False.elim (by omega)) (And.intro (fun h32 => False.elim (by omega)) (And.intro (fun h32 => False.elim (by omega)) (And.intro (fun h32 => False.elim (by omega)) True.intro))))))))))))) (fun h32 => False.elim (by omega)))
  refine And.intro (zA_234 hS) (zrdR (v := some 239) (zR_234_7 hR) ?_)
  refine And.intro (zP_239 hS (by omega) (by omega)) (fun v158 e158 r158 => ?_)
  refine And.intro (zA_234 hS) ⟨_, sn_G_bcl.up (by decide), ?_⟩
  refine ⟨x.2.2.2.2.2.2.2, x.1.1, x.2.2.2.2.2.1, (v158 : Int), (I 234 42), rfl, hS, hR, (Eq.trans (b := ((x.2.2.2.2.2.2.2.length) : Int)) m10 (by omega)), (by omega), (zHs_fr m11 (fun c j h1 h2 h3 => (zxcj (by omega) rfl)) (fun j hj => rfl)), (zRv_fr m1 (fun c j h => (zxcj (by omega) rfl)) (fun c j h => rfl)), m8, (by omega), (by omega), (zxcj (by omega) rfl), m12, (by omega), ?_⟩
  intro m2159o I159o p159hH2 p159bg42 p159bbhm2 p159bbbfr
  refine hQ _ _ (zMs_c hM (fun c j h => ((p159bbbfr c j (by omega) (by omega) (by omega)).trans (zxcj (by omega) rfl))) (fun c j h => rfl) m4.1 (((p159bbbfr _ _ (by omega) (by omega) (by omega)).trans (zxcj (by omega) rfl)).trans m5.1) (((p159bbbfr _ _ (by omega) (by omega) (by omega)).trans (zxcj (by omega) rfl)).trans m5.2) ((show _ = (((x.2.2.2.2.1) + 1) : Int) from ((p159bbbfr 234 52 (by omega) (by omega) (by omega)).trans rfl)).trans (by omega)) ⟨(((p159bbbfr _ _ (by omega) (by omega) (by omega)).trans (zxcj (by omega) rfl)).trans m8), m8b⟩ (fun i hi => (((p159bbbfr _ _ (by omega) (by omega) (by omega)).trans (zxcj (by omega) rfl)).trans (m9 i hi))) ⟨((p159bbbfr _ _ (by omega) (by omega) (by omega)).trans (zxcj (by omega) rfl)).trans (m10.trans (by rw [hs_len (hs := x.2.2.2.2.2.2.2)]; omega)), by rw [hs_len]; omega⟩ p159hH2 (zc42 p159bg42 p159bbhm2)) (fun c j h0 h1 h2 h3 h4 h5 h6 h7 h8 h9 h10 h11 h12 h13 h14 h15 h16 h17 h18 h19 h20 h21 h22 h23 h24 h25 h26 h27 h28 h29 => ((p159bbbfr c j h23 h5 h21).trans (zxcj h16 rfl))) (fun c j h0 h1 h2 h3 h4 h5 h6 => rfl))
def T_G_w11 : ZT := fun args I L R S Q => ∃ (g : Nat) (lim : Nat) (x : MsT) (i : Nat) (kc : Nat) (o : OrT), args = [zvr 234] ∧ (zSh S) ∧ (zRs R) ∧ (I 234 3 = g) ∧ (g ≤ 1) ∧ (zMs g lim x I L) ∧ (x.2.2.2.2.1 = i) ∧ (zOr g kc i o I) ∧ (kc ≤ 1000) ∧ (i ≤ 599) ∧ (o.1 = 11) ∧ (1 ≤ x.2.2.2.2.2.2.2.length) ∧ ∀ (I' : ZI) (L' : ZI), (zMs g lim (if (hdH x.2.2.2.2.2.2.2).2.2.2.1 = 0 then (x.1, x.2.1, x.2.2.1, x.2.2.2.1, (x.2.2.2.2.1 + 1), x.2.2.2.2.2.1, x.2.2.2.2.2.2.1, x.2.2.2.2.2.2.2.drop 1) else mRa (hdH x.2.2.2.2.2.2.2).2.2.2.1 (hdH x.2.2.2.2.2.2.2).2.2.2.2.1 (hdH x.2.2.2.2.2.2.2).2.2.2.2.2.1 (x.1, x.2.1, x.2.2.1, x.2.2.2.1, (x.2.2.2.2.1 + 1), x.2.2.2.2.2.1, x.2.2.2.2.2.2.1, x.2.2.2.2.2.2.2.drop 1)) I' L') → (∀ c j : Nat, ¬ (c = 234 ∧ j = 28) → ¬ (c = 234 ∧ j = 30) → ¬ (c = 234 ∧ j = 36) → ¬ (c = 234 ∧ j = 38) → ¬ (c = 234 ∧ j = 40) → ¬ (c = 234 ∧ j = 42) → ¬ (c = 234 ∧ j = 44) → ¬ (c = 234 ∧ j = 51) → ¬ (c = 234 ∧ j = 66) → ¬ (c = 234 ∧ j = 53) → ¬ (c = 234 ∧ j = 55) → ¬ (c = 234 ∧ j = 46) → ¬ (c = 234 ∧ j = 47) → ¬ (c = 234 ∧ j = 48) → ¬ (c = 234 ∧ j = 49) → ¬ (c = 234 ∧ j = 50) → ¬ (c = 234 ∧ j = 52) → ¬ (c = 234 ∧ j = 45) → ¬ c = 254 → ¬ c = 255 → ¬ c = 256 → ¬ c = 257 → ¬ c = 258 → ¬ c = 259 → ¬ c = 260 → ¬ c = 261 → ¬ c = 262 → ¬ c = 263 → ¬ c = 264 → ¬ c = 266 → I' c j = I c j) → (∀ c j : Nat, ¬ c = 251 → ¬ c = 252 → ¬ c = 253 → ¬ c = 265 → ¬ c = 267 → ¬ (c = 234 ∧ j = 65) → ¬ (c = 234 ∧ j = 35) → L' c j = L c j) → Q none I' L' R S
theorem sn_G_w11 : ZSnd 5 12 55 T_G_w11 := ZSnd.of (zT12_55 4) (by
  rintro args I L R S Q hz ⟨g, lim, x, i, kc, o, rfl, hS, hR, h3, hg, hM, hN, hO, hkc, hi6, hk1, h1, hQ⟩
  obtain ⟨m1, m2, m3, m4, m5, m6, m7, ⟨m8, m8b⟩, m9, ⟨m10, m10b⟩, m11, m12, m13⟩ := id hM
  obtain ⟨hV1, ⟨hV2, hV2b⟩, hV3, ⟨hV4, hV4b⟩, hV5⟩ := id m1
  obtain ⟨hnx1, hnx2⟩ : r32 x.2.2.2.2.1 := by rw [← m7]; exact hz.1 234 52
  have m4a := m4.1
  have m4b := m4.2
  refine And.intro rfl ?_
  refine And.intro (zA_234 hS) (zrd (v := g) h3 ?_)
  refine And.intro (zA_234 hS) (zrd (v := (x.2.2.2.2.1)) m7 ?_)
  refine And.intro (zA_234 hS) (zrdR (v := some 238) (zR_234_6 hR) ?_)
  refine And.intro (zP_238 hS (by omega) (by omega)) (fun v19 e19 r19 => ?_)
  have f19 : v19 = 11 := (e19.trans ((congrArg (I 238) (by omega)).trans (hO.1.1.trans hk1)))
  refine And.intro (zA_234 hS) (zrd (v := (x.2.2.2.2.1)) m7 ?_)
  refine And.intro (zA_234 hS) ⟨_, (zWi (by omega)), ?_⟩
  refine And.intro r19 (And.intro (And.intro (fun h32 => False.elim (by omega)) (And.intro (fun h32 => False.elim (by omega)) (And.intro (fun h32 => False.elim (by omega)) (And.intro (fun h32 => ?_) (And.intro (fun h32 => False.elim (by omega)) (And.intro (fun h32 => False.elim (by omega)) (And.intro (fun h32 => False.elim (by omega)) (And.intro (fun h32 => False.elim (by omega)) (And.intro (fun h32 => False.elim (by omega)) (And.intro (fun h32 => False.elim (by omega)) (And.intro (fun h32 => False.elim (by omega)) (And.intro (fun h32 => False.elim (by omega)) (And.intro (fun h32 => False.elim (by omega)) True.intro))))))))))))) (fun h32 => False.elim (by omega)))
  refine And.intro (zA_234 hS) ⟨_, sn_G_cen.up (by decide), ?_⟩
  refine ⟨g, lim, (mNx x (x.2.2.2.2.1 + 1)), rfl, hS, hR, h3, (by omega), (zMs_n hM ((show _ = (((x.2.2.2.2.1) + 1) : Int) from rfl).trans (by omega)) (fun c j h => (zxcj (by omega) rfl))), h1, ?_⟩
  intro I164o L164o p164hM2 p164bfr p164bbfrL
  refine hQ _ _ p164hM2 (fun c j h0 h1 h2 h3 h4 h5 h6 h7 h8 h9 h10 h11 h12 h13 h14 h15 h16 h17 h18 h19 h20 h21 h22 h23 h24 h25 h26 h27 h28 h29 => ((p164bfr c j h0 h1 h6 h8 h9 h10 h11 h12 h13 h14 h15 h16 h23 h26 h27 h28).trans (zxcj h16 rfl))) (fun c j h0 h1 h2 h3 h4 h5 h6 => ((p164bbfrL c j h0).trans rfl)))
