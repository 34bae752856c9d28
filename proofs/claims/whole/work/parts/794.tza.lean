/-! tza -/
def T_G_wn1 : ZT := fun args I L R S Q => ∃ (g : Nat) (lim : Nat) (x : MsT) (i : Nat) (kc : Nat) (o : OrT), args = [zvr 234] ∧ (zSh S) ∧ (zRs R) ∧ (I 234 3 = g) ∧ (g ≤ 1) ∧ (zMs g lim x I L) ∧ (x.2.2.2.2.1 = i) ∧ (zOr g kc i o I) ∧ (kc ≤ 1000) ∧ (i ≤ 599) ∧ (o.1 = 1) ∧ (lim ≤ 300 ∧ x.2.1 ≤ lim) ∧ (x.2.1 = lim) ∧ ∀ (I' : ZI) (L' : ZI), (zMs g lim (x.1, x.2.1, (1, 2), (mNx x (x.2.2.2.2.1 + 1)).2.2.2) I' L') → (∀ c j : Nat, ¬ (c = 234 ∧ j = 28) → ¬ (c = 234 ∧ j = 30) → ¬ (c = 234 ∧ j = 36) → ¬ (c = 234 ∧ j = 38) → ¬ (c = 234 ∧ j = 40) → ¬ (c = 234 ∧ j = 42) → ¬ (c = 234 ∧ j = 44) → ¬ (c = 234 ∧ j = 51) → ¬ (c = 234 ∧ j = 66) → ¬ (c = 234 ∧ j = 53) → ¬ (c = 234 ∧ j = 55) → ¬ (c = 234 ∧ j = 46) → ¬ (c = 234 ∧ j = 47) → ¬ (c = 234 ∧ j = 48) → ¬ (c = 234 ∧ j = 49) → ¬ (c = 234 ∧ j = 50) → ¬ (c = 234 ∧ j = 52) → ¬ (c = 234 ∧ j = 45) → ¬ c = 254 → ¬ c = 255 → ¬ c = 256 → ¬ c = 257 → ¬ c = 258 → ¬ c = 259 → ¬ c = 260 → ¬ c = 261 → ¬ c = 262 → ¬ c = 263 → ¬ c = 264 → ¬ c = 266 → I' c j = I c j) → (∀ c j : Nat, ¬ c = 251 → ¬ c = 252 → ¬ c = 253 → ¬ c = 265 → ¬ c = 267 → ¬ (c = 234 ∧ j = 65) → ¬ (c = 234 ∧ j = 35) → L' c j = L c j) → Q none I' L' R S
theorem sn_G_wn1 : ZSnd 5 12 55 T_G_wn1 := ZSnd.of (zT12_55 4) (by
  rintro args I L R S Q hz ⟨g, lim, x, i, kc, o, rfl, hS, hR, h3, hg, hM, hN, hO, hkc, hi6, hk1, hli, hlm, hQ⟩
  obtain ⟨m1, m2, m3, m4, m5, m6, m7, ⟨m8, m8b⟩, m9, ⟨m10, m10b⟩, m11, m12, m13⟩ := id hM
  obtain ⟨hV1, ⟨hV2, hV2b⟩, hV3, ⟨hV4, hV4b⟩, hV5⟩ := id m1
  obtain ⟨hnx1, hnx2⟩ : r32 x.2.2.2.2.1 := by rw [← m7]; exact hz.1 234 52
  have m4a := m4.1
  have m4b := m4.2
  refine And.intro rfl ?_
  refine And.intro (zA_234 hS) (zrd (v := g) h3 ?_)
  refine And.intro (zA_234 hS) (zrd (v := (x.2.2.2.2.1)) m7 ?_)
  refine And.intro (zA_234 hS) (zrdR (v := some 238) (zR_234_6 hR) ?_)
  refine And.intro (zP_238 hS (by omega) (by omega)) (fun v19 e19 r19 => ?_)
  have f19 : v19 = 1 := (e19.trans ((congrArg (I 238) (by omega)).trans (hO.1.1.trans hk1)))
  refine And.intro (zA_234 hS) (zrd (v := (x.2.2.2.2.1)) m7 ?_)
  refine And.intro (zA_234 hS) ⟨_, (zWi (by omega)), ?_⟩
  refine And.intro r19 (And.intro (And.intro (fun h32 => False.elim (by omega)) (And.intro (fun h32 => False.elim (by omega)) (And.intro (fun h32 => False.elim (by omega)) (And.intro (fun h32 => False.elim (by omega)) (And.intro (fun h32 => False.elim (by omega)) (And.intro (fun h32 => False.elim (by omega)) (And.intro (fun h32 => False.elim (by omega)) (And.intro (fun h32 => False.elim (by omega)) (And.intro (fun h32 => False.elim (by omega)) (And.intro (fun h32 => False.elim (by omega)) (And.intro (fun h32 => False.elim (by omega)) (And.intro (fun h32 => False.elim (by omega)) (And.intro (fun h32 => False.elim (by omega)) True.intro))))))))))))) (fun h32 => ?_))
  refine And.intro (zA_234 hS) (zrdR (v := some 239) (zR_234_7 hR) ?_)
  refine And.intro (zP_239 hS (by omega) (by omega)) (fun v174 e174 r174 => ?_)
  have f174 : v174 = o.2.1 := (e174.trans ((zxcj (by omega) rfl).trans ((congrArg (I 239) (by omega)).trans hO.1.2.1)))
  refine And.intro (zA_234 hS) ⟨_, sn_G_sp0.up (by decide), ?_⟩
  refine ⟨g, lim, (mNx x (x.2.2.2.2.1 + 1)), (v174 : Int), rfl, hS, hR, h3, (by omega), (zMs_n hM ((show _ = (((x.2.2.2.2.1) + 1) : Int) from rfl).trans (by omega)) (fun c j h => (zxcj (by omega) rfl))), hli, hlm, ?_⟩
  intro I175o p175hM2 p175bfr
  refine And.intro (zRb rfl) (zbf rfl ?_)
  refine hQ _ _ p175hM2 (fun c j h0 h1 h2 h3 h4 h5 h6 h7 h8 h9 h10 h11 h12 h13 h14 h15 h16 h17 h18 h19 h20 h21 h22 h23 h24 h25 h26 h27 h28 h29 => ((p175bfr c j h14 h15).trans (zxcj h16 rfl))) (fun c j h0 h1 h2 h3 h4 h5 h6 => rfl))
def T_G_wn2 : ZT := fun args I L R S Q => ∃ (g : Nat) (lim : Nat) (x : MsT) (i : Nat) (kc : Nat) (o : OrT), args = [zvr 234] ∧ (zSh S) ∧ (zRs R) ∧ (I 234 3 = g) ∧ (g ≤ 1) ∧ (zMs g lim x I L) ∧ (x.2.2.2.2.1 = i) ∧ (zOr g kc i o I) ∧ (kc ≤ 1000) ∧ (i ≤ 599) ∧ (o.1 = 2) ∧ (lim ≤ 300 ∧ x.2.1 ≤ lim) ∧ (x.2.1 = lim) ∧ ∀ (I' : ZI) (L' : ZI), (zMs g lim (x.1, x.2.1, (1, 2), (mNx x (x.2.2.2.2.1 + 1)).2.2.2) I' L') → (∀ c j : Nat, ¬ (c = 234 ∧ j = 28) → ¬ (c = 234 ∧ j = 30) → ¬ (c = 234 ∧ j = 36) → ¬ (c = 234 ∧ j = 38) → ¬ (c = 234 ∧ j = 40) → ¬ (c = 234 ∧ j = 42) → ¬ (c = 234 ∧ j = 44) → ¬ (c = 234 ∧ j = 51) → ¬ (c = 234 ∧ j = 66) → ¬ (c = 234 ∧ j = 53) → ¬ (c = 234 ∧ j = 55) → ¬ (c = 234 ∧ j = 46) → ¬ (c = 234 ∧ j = 47) → ¬ (c = 234 ∧ j = 48) → ¬ (c = 234 ∧ j = 49) → ¬ (c = 234 ∧ j = 50) → ¬ (c = 234 ∧ j = 52) → ¬ (c = 234 ∧ j = 45) → ¬ c = 254 → ¬ c = 255 → ¬ c = 256 → ¬ c = 257 → ¬ c = 258 → ¬ c = 259 → ¬ c = 260 → ¬ c = 261 → ¬ c = 262 → ¬ c = 263 → ¬ c = 264 → ¬ c = 266 → I' c j = I c j) → (∀ c j : Nat, ¬ c = 251 → ¬ c = 252 → ¬ c = 253 → ¬ c = 265 → ¬ c = 267 → ¬ (c = 234 ∧ j = 65) → ¬ (c = 234 ∧ j = 35) → L' c j = L c j) → Q none I' L' R S
theorem sn_G_wn2 : ZSnd 5 12 55 T_G_wn2 := ZSnd.of (zT12_55 4) (by
  rintro args I L R S Q hz ⟨g, lim, x, i, kc, o, rfl, hS, hR, h3, hg, hM, hN, hO, hkc, hi6, hk1, hli, hlm, hQ⟩
  obtain ⟨m1, m2, m3, m4, m5, m6, m7, ⟨m8, m8b⟩, m9, ⟨m10, m10b⟩, m11, m12, m13⟩ := id hM
  obtain ⟨hV1, ⟨hV2, hV2b⟩, hV3, ⟨hV4, hV4b⟩, hV5⟩ := id m1
  obtain ⟨hnx1, hnx2⟩ : r32 x.2.2.2.2.1 := by rw [← m7]; exact hz.1 234 52
  have m4a := m4.1
  have m4b := m4.2
  refine And.intro rfl ?_
  refine And.intro (zA_234 hS) (zrd (v := g) h3 ?_)
  refine And.intro (zA_234 hS) (zrd (v := (x.2.2.2.2.1)) m7 ?_)
  refine And.intro (zA_234 hS) (zrdR (v := some 238) (zR_234_6 hR) ?_)
  refine And.intro (zP_238 hS (by omega) (by omega)) (fun v19 e19 r19 => ?_)
  have f19 : v19 = 2 := (e19.trans ((congrArg (I 238) (by omega)).trans (hO.1.1.trans hk1)))
  refine And.intro (zA_234 hS) (zrd (v := (x.2.2.2.2.1)) m7 ?_)
  refine And.intro (zA_234 hS) ⟨_, (zWi (by omega)), ?_⟩
  refine And.intro r19 (And.intro (And.intro (fun h32 => False.elim (by omega)) (And.intro (fun h32 => False.elim (by omega)) (And.intro (fun h32 => False.elim (by omega)) (And.intro (fun h32 => False.elim (by omega)) (And.intro (fun h32 => False.elim (by omega)) (And.intro (fun h32 => False.elim (by omega)) (And.intro (fun h32 => False.elim (by omega)) (And.intro (fun h32 => False.elim (by omega)) (And.intro (fun h32 => False.elim (by omega)) (And.intro (fun h32 => False.elim (by omega)) (And.intro (fun h32 => False.elim (by omega)) (And.intro (fun h32 => False.elim (by omega)) (And.intro (fun h32 => False.elim (by omega)) True.intro))))))))))))) (fun h32 => ?_))
  refine And.intro (zA_234 hS) (zrdR (v := some 239) (zR_234_7 hR) ?_)
  refine And.intro (zP_239 hS (by omega) (by omega)) (fun v174 e174 r174 => ?_)
  have f174 : v174 = o.2.1 := (e174.trans ((zxcj (by omega) rfl).trans ((congrArg (I 239) (by omega)).trans hO.1.2.1)))
  refine And.intro (zA_234 hS) ⟨_, sn_G_sp0.up (by decide), ?_⟩
  refine ⟨g, lim, (mNx x (x.2.2.2.2.1 + 1)), (v174 : Int), rfl, hS, hR, h3, (by omega), (zMs_n hM ((show _ = (((x.2.2.2.2.1) + 1) : Int) from rfl).trans (by omega)) (fun c j h => (zxcj (by omega) rfl))), hli, hlm, ?_⟩
  intro I175o p175hM2 p175bfr
  refine And.intro (zRb rfl) (zbf rfl ?_)
  refine hQ _ _ p175hM2 (fun c j h0 h1 h2 h3 h4 h5 h6 h7 h8 h9 h10 h11 h12 h13 h14 h15 h16 h17 h18 h19 h20 h21 h22 h23 h24 h25 h26 h27 h28 h29 => ((p175bfr c j h14 h15).trans (zxcj h16 rfl))) (fun c j h0 h1 h2 h3 h4 h5 h6 => rfl))
def T_G_wn3 : ZT := fun args I L R S Q => ∃ (g : Nat) (lim : Nat) (x : MsT) (i : Nat) (kc : Nat) (o : OrT), args = [zvr 234] ∧ (zSh S) ∧ (zRs R) ∧ (I 234 3 = g) ∧ (g ≤ 1) ∧ (zMs g lim x I L) ∧ (x.2.2.2.2.1 = i) ∧ (zOr g kc i o I) ∧ (kc ≤ 1000) ∧ (i ≤ 599) ∧ (o.1 = 3) ∧ (lim ≤ 300 ∧ x.2.1 ≤ lim) ∧ (x.2.1 = lim) ∧ ∀ (I' : ZI) (L' : ZI), (zMs g lim (x.1, x.2.1, (1, 2), (mNx x (x.2.2.2.2.1 + 1)).2.2.2) I' L') → (∀ c j : Nat, ¬ (c = 234 ∧ j = 28) → ¬ (c = 234 ∧ j = 30) → ¬ (c = 234 ∧ j = 36) → ¬ (c = 234 ∧ j = 38) → ¬ (c = 234 ∧ j = 40) → ¬ (c = 234 ∧ j = 42) → ¬ (c = 234 ∧ j = 44) → ¬ (c = 234 ∧ j = 51) → ¬ (c = 234 ∧ j = 66) → ¬ (c = 234 ∧ j = 53) → ¬ (c = 234 ∧ j = 55) → ¬ (c = 234 ∧ j = 46) → ¬ (c = 234 ∧ j = 47) → ¬ (c = 234 ∧ j = 48) → ¬ (c = 234 ∧ j = 49) → ¬ (c = 234 ∧ j = 50) → ¬ (c = 234 ∧ j = 52) → ¬ (c = 234 ∧ j = 45) → ¬ c = 254 → ¬ c = 255 → ¬ c = 256 → ¬ c = 257 → ¬ c = 258 → ¬ c = 259 → ¬ c = 260 → ¬ c = 261 → ¬ c = 262 → ¬ c = 263 → ¬ c = 264 → ¬ c = 266 → I' c j = I c j) → (∀ c j : Nat, ¬ c = 251 → ¬ c = 252 → ¬ c = 253 → ¬ c = 265 → ¬ c = 267 → ¬ (c = 234 ∧ j = 65) → ¬ (c = 234 ∧ j = 35) → L' c j = L c j) → Q none I' L' R S
theorem sn_G_wn3 : ZSnd 5 12 55 T_G_wn3 := ZSnd.of (zT12_55 4) (by
  rintro args I L R S Q hz ⟨g, lim, x, i, kc, o, rfl, hS, hR, h3, hg, hM, hN, hO, hkc, hi6, hk1, hli, hlm, hQ⟩
  obtain ⟨m1, m2, m3, m4, m5, m6, m7, ⟨m8, m8b⟩, m9, ⟨m10, m10b⟩, m11, m12, m13⟩ := id hM
  obtain ⟨hV1, ⟨hV2, hV2b⟩, hV3, ⟨hV4, hV4b⟩, hV5⟩ := id m1
  obtain ⟨hnx1, hnx2⟩ : r32 x.2.2.2.2.1 := by rw [← m7]; exact hz.1 234 52
  have m4a := m4.1
  have m4b := m4.2
  refine And.intro rfl ?_
  refine And.intro (zA_234 hS) (zrd (v := g) h3 ?_)
  refine And.intro (zA_234 hS) (zrd (v := (x.2.2.2.2.1)) m7 ?_)
  refine And.intro (zA_234 hS) (zrdR (v := some 238) (zR_234_6 hR) ?_)
  refine And.intro (zP_238 hS (by omega) (by omega)) (fun v19 e19 r19 => ?_)
  have f19 : v19 = 3 := (e19.trans ((congrArg (I 238) (by omega)).trans (hO.1.1.trans hk1)))
  refine And.intro (zA_234 hS) (zrd (v := (x.2.2.2.2.1)) m7 ?_)
  refine And.intro (zA_234 hS) ⟨_, (zWi (by omega)), ?_⟩
  refine And.intro r19 (And.intro (And.intro (fun h32 => False.elim (by omega)) (And.intro (fun h32 => False.elim (by omega)) (And.intro (fun h32 => False.elim (by omega)) (And.intro (fun h32 => False.elim (by omega)) (And.intro (fun h32 => False.elim (by omega)) (And.intro (fun h32 => False.elim (by omega)) (And.intro (fun h32 => False.elim (by omega)) (And.intro (fun h32 => False.elim (by omega)) (And.intro (fun h32 => False.elim (by omega)) (And.intro (fun h32 => False.elim (by omega)) (And.intro (fun h32 => False.elim (by omega)) (And.intro (fun h32 => False.elim (by omega)) (And.intro (fun h32 => False.elim (by omega)) True.intro))))))))))))) (fun h32 => ?_))
  refine And.intro (zA_234 hS) (zrdR (v := some 239) (zR_234_7 hR) ?_)
  refine And.intro (zP_239 hS (by omega) (by omega)) (fun v174 e174 r174 => ?_)
  have f174 : v174 = o.2.1 := (e174.trans ((zxcj (by omega) rfl).trans ((congrArg (I 239) (by omega)).trans hO.1.2.1)))
  refine And.intro (zA_234 hS) ⟨_, sn_G_sp0.up (by decide), ?_⟩
  refine ⟨g, lim, (mNx x (x.2.2.2.2.1 + 1)), (v174 : Int), rfl, hS, hR, h3, (by omega), (zMs_n hM ((show _ = (((x.2.2.2.2.1) + 1) : Int) from rfl).trans (by omega)) (fun c j h => (zxcj (by omega) rfl))), hli, hlm, ?_⟩
  intro I175o p175hM2 p175bfr
  refine And.intro (zRb rfl) (zbf rfl ?_)
  refine hQ _ _ p175hM2 (fun c j h0 h1 h2 h3 h4 h5 h6 h7 h8 h9 h10 h11 h12 h13 h14 h15 h16 h17 h18 h19 h20 h21 h22 h23 h24 h25 h26 h27 h28 h29 => ((p175bfr c j h14 h15).trans (zxcj h16 rfl))) (fun c j h0 h1 h2 h3 h4 h5 h6 => rfl))
def T_G_wn4 : ZT := fun args I L R S Q => ∃ (g : Nat) (lim : Nat) (x : MsT) (i : Nat) (kc : Nat) (o : OrT), args = [zvr 234] ∧ (zSh S) ∧ (zRs R) ∧ (I 234 3 = g) ∧ (g ≤ 1) ∧ (zMs g lim x I L) ∧ (x.2.2.2.2.1 = i) ∧ (zOr g kc i o I) ∧ (kc ≤ 1000) ∧ (i ≤ 599) ∧ (o.1 = 4) ∧ (lim ≤ 300 ∧ x.2.1 ≤ lim) ∧ (x.2.1 = lim) ∧ ∀ (I' : ZI) (L' : ZI), (zMs g lim (x.1, x.2.1, (1, 2), (mNx x (x.2.2.2.2.1 + 1)).2.2.2) I' L') → (∀ c j : Nat, ¬ (c = 234 ∧ j = 28) → ¬ (c = 234 ∧ j = 30) → ¬ (c = 234 ∧ j = 36) → ¬ (c = 234 ∧ j = 38) → ¬ (c = 234 ∧ j = 40) → ¬ (c = 234 ∧ j = 42) → ¬ (c = 234 ∧ j = 44) → ¬ (c = 234 ∧ j = 51) → ¬ (c = 234 ∧ j = 66) → ¬ (c = 234 ∧ j = 53) → ¬ (c = 234 ∧ j = 55) → ¬ (c = 234 ∧ j = 46) → ¬ (c = 234 ∧ j = 47) → ¬ (c = 234 ∧ j = 48) → ¬ (c = 234 ∧ j = 49) → ¬ (c = 234 ∧ j = 50) → ¬ (c = 234 ∧ j = 52) → ¬ (c = 234 ∧ j = 45) → ¬ c = 254 → ¬ c = 255 → ¬ c = 256 → ¬ c = 257 → ¬ c = 258 → ¬ c = 259 → ¬ c = 260 → ¬ c = 261 → ¬ c = 262 → ¬ c = 263 → ¬ c = 264 → ¬ c = 266 → I' c j = I c j) → (∀ c j : Nat, ¬ c = 251 → ¬ c = 252 → ¬ c = 253 → ¬ c = 265 → ¬ c = 267 → ¬ (c = 234 ∧ j = 65) → ¬ (c = 234 ∧ j = 35) → L' c j = L c j) → Q none I' L' R S
theorem sn_G_wn4 : ZSnd 5 12 55 T_G_wn4 := ZSnd.of (zT12_55 4) (by
  rintro args I L R S Q hz ⟨g, lim, x, i, kc, o, rfl, hS, hR, h3, hg, hM, hN, hO, hkc, hi6, hk1, hli, hlm, hQ⟩
  obtain ⟨m1, m2, m3, m4, m5, m6, m7, ⟨m8, m8b⟩, m9, ⟨m10, m10b⟩, m11, m12, m13⟩ := id hM
  obtain ⟨hV1, ⟨hV2, hV2b⟩, hV3, ⟨hV4, hV4b⟩, hV5⟩ := id m1
  obtain ⟨hnx1, hnx2⟩ : r32 x.2.2.2.2.1 := by rw [← m7]; exact hz.1 234 52
  have m4a := m4.1
  have m4b := m4.2
  refine And.intro rfl ?_
  refine And.intro (zA_234 hS) (zrd (v := g) h3 ?_)
  refine And.intro (zA_234 hS) (zrd (v := (x.2.2.2.2.1)) m7 ?_)
  refine And.intro (zA_234 hS) (zrdR (v := some 238) (zR_234_6 hR) ?_)
  refine And.intro (zP_238 hS (by omega) (by omega)) (fun v19 e19 r19 => ?_)
  have f19 : v19 = 4 := (e19.trans ((congrArg (I 238) (by omega)).trans (hO.1.1.trans hk1)))
  refine And.intro (zA_234 hS) (zrd (v := (x.2.2.2.2.1)) m7 ?_)
  refine And.intro (zA_234 hS) ⟨_, (zWi (by omega)), ?_⟩
  refine And.intro r19 (And.intro (And.intro (fun h32 => False.elim (by omega)) (And.intro (fun h32 => False.elim (by omega)) (And.intro (fun h32 => False.elim (by omega)) (And.intro (fun h32 => False.elim (by omega)) (And.intro (fun h32 => False.elim (by omega)) (And.intro (fun h32 => False.elim (by omega)) (And.intro (fun h32 => False.elim (by omega)) (And.intro (fun h32 => False.elim (by omega)) (And.intro (fun h32 => False.elim (by omega)) (And.intro (fun h32 => False.elim (by omega)) (And.intro (fun h32 => False.elim (by omega)) (And.intro (fun h32 => False.elim (by omega)) (And.intro (fun h32 => False.elim (by omega)) True.intro))))))))))))) (fun h32 => ?_))
  refine And.intro (zA_234 hS) (zrdR (v := some 239) (zR_234_7 hR) ?_)
  refine And.intro (zP_239 hS (by omega) (by omega)) (fun v174 e174 r174 => ?_)
  have f174 : v174 = o.2.1 := (e174.trans ((zxcj (by omega) rfl).trans ((congrArg (I 239) (by omega)).trans hO.1.2.1)))
  refine And.intro (zA_234 hS) ⟨_, sn_G_sp0.up (by decide), ?_⟩
  refine ⟨g, lim, (mNx x (x.2.2.2.2.1 + 1)), (v174 : Int), rfl, hS, hR, h3, (by omega), (zMs_n hM ((show _ = (((x.2.2.2.2.1) + 1) : Int) from rfl).trans (by omega)) (fun c j h => (zxcj (by omega) rfl))), hli, hlm, ?_⟩
  intro I175o p175hM2 p175bfr
  refine And.intro (zRb rfl) (zbf rfl ?_)
  refine hQ _ _ p175hM2 (fun c j h0 h1 h2 h3 h4 h5 h6 h7 h8 h9 h10 h11 h12 h13 h14 h15 h16 h17 h18 h19 h20 h21 h22 h23 h24 h25 h26 h27 h28 h29 => ((p175bfr c j h14 h15).trans (zxcj h16 rfl))) (fun c j h0 h1 h2 h3 h4 h5 h6 => rfl))
def T_G_wn5 : ZT := fun args I L R S Q => ∃ (g : Nat) (lim : Nat) (x : MsT) (i : Nat) (kc : Nat) (o : OrT), args = [zvr 234] ∧ (zSh S) ∧ (zRs R) ∧ (I 234 3 = g) ∧ (g ≤ 1) ∧ (zMs g lim x I L) ∧ (x.2.2.2.2.1 = i) ∧ (zOr g kc i o I) ∧ (kc ≤ 1000) ∧ (i ≤ 599) ∧ (o.1 = 5) ∧ (lim ≤ 300 ∧ x.2.1 ≤ lim) ∧ (x.2.1 = lim) ∧ ∀ (I' : ZI) (L' : ZI), (zMs g lim (x.1, x.2.1, (1, 2), (mNx x (x.2.2.2.2.1 + 1)).2.2.2) I' L') → (∀ c j : Nat, ¬ (c = 234 ∧ j = 28) → ¬ (c = 234 ∧ j = 30) → ¬ (c = 234 ∧ j = 36) → ¬ (c = 234 ∧ j = 38) → ¬ (c = 234 ∧ j = 40) → ¬ (c = 234 ∧ j = 42) → ¬ (c = 234 ∧ j = 44) → ¬ (c = 234 ∧ j = 51) → ¬ (c = 234 ∧ j = 66) → ¬ (c = 234 ∧ j = 53) → ¬ (c = 234 ∧ j = 55) → ¬ (c = 234 ∧ j = 46) → ¬ (c = 234 ∧ j = 47) → ¬ (c = 234 ∧ j = 48) → ¬ (c = 234 ∧ j = 49) → ¬ (c = 234 ∧ j = 50) → ¬ (c = 234 ∧ j = 52) → ¬ (c = 234 ∧ j = 45) → ¬ c = 254 → ¬ c = 255 → ¬ c = 256 → ¬ c = 257 → ¬ c = 258 → ¬ c = 259 → ¬ c = 260 → ¬ c = 261 → ¬ c = 262 → ¬ c = 263 → ¬ c = 264 → ¬ c = 266 → I' c j = I c j) → (∀ c j : Nat, ¬ c = 251 → ¬ c = 252 → ¬ c = 253 → ¬ c = 265 → ¬ c = 267 → ¬ (c = 234 ∧ j = 65) → ¬ (c = 234 ∧ j = 35) → L' c j = L c j) → Q none I' L' R S
theorem sn_G_wn5 : ZSnd 5 12 55 T_G_wn5 := ZSnd.of (zT12_55 4) (by
  rintro args I L R S Q hz ⟨g, lim, x, i, kc, o, rfl, hS, hR, h3, hg, hM, hN, hO, hkc, hi6, hk1, hli, hlm, hQ⟩
  obtain ⟨m1, m2, m3, m4, m5, m6, m7, ⟨m8, m8b⟩, m9, ⟨m10, m10b⟩, m11, m12, m13⟩ := id hM
  obtain ⟨hV1, ⟨hV2, hV2b⟩, hV3, ⟨hV4, hV4b⟩, hV5⟩ := id m1
  obtain ⟨hnx1, hnx2⟩ : r32 x.2.2.2.2.1 := by rw [← m7]; exact hz.1 234 52
  have m4a := m4.1
  have m4b := m4.2
  refine And.intro rfl ?_
  refine And.intro (zA_234 hS) (zrd (v := g) h3 ?_)
  refine And.intro (zA_234 hS) (zrd (v := (x.2.2.2.2.1)) m7 ?_)
  refine And.intro (zA_234 hS) (zrdR (v := some 238) (zR_234_6 hR) ?_)
  refine And.intro (zP_238 hS (by omega) (by omega)) (fun v19 e19 r19 => ?_)
  have f19 : v19 = 5 := (e19.trans ((congrArg (I 238) (by omega)).trans (hO.1.1.trans hk1)))
  refine And.intro (zA_234 hS) (zrd (v := (x.2.2.2.2.1)) m7 ?_)
  refine And.intro (zA_234 hS) ⟨_, (zWi (by omega)), ?_⟩
  refine And.intro r19 (And.intro (And.intro (fun h32 => False.elim (by omega)) (And.intro (fun h32 => False.elim (by omega)) (And.intro (fun h32 => False.elim (by omega)) (And.intro (fun h32 => False.elim (by omega)) (And.intro (fun h32 => False.elim (by omega)) (And.intro (fun h32 => False.elim (by omega)) (And.intro (fun h32 => False.elim (by omega)) (And.intro (fun h32 => False.elim (by omega)) (And.intro (fun h32 => False.elim (by omega)) (And.intro (fun h32 => False.elim (by omega)) (And.intro (fun h32 => False.elim (by omega)) (And.intro (fun h32 => False.elim (by omega)) (And.intro (fun h32 => False.elim (by omega)) True.intro))))))))))))) (fun h32 => ?_))
  refine And.intro (zA_234 hS) (zrdR (v := some 239) (zR_234_7 hR) ?_)
  refine And.intro (zP_239 hS (by omega) (by omega)) (fun v174 e174 r174 => ?_)
  have f174 : v174 = o.2.1 := (e174.trans ((zxcj (by omega) rfl).trans ((congrArg (I 239) (by omega)).trans hO.1.2.1)))
  refine And.intro (zA_234 hS) ⟨_, sn_G_sp0.up (by decide), ?_⟩
  refine ⟨g, lim, (mNx x (x.2.2.2.2.1 + 1)), (v174 : Int), rfl, hS, hR, h3, (by omega), (zMs_n hM ((show _ = (((x.2.2.2.2.1) + 1) : Int) from rfl).trans (by omega)) (fun c j h => (zxcj (by omega) rfl))), hli, hlm, ?_⟩
  intro I175o p175hM2 p175bfr
  refine And.intro (zRb rfl) (zbf rfl ?_)
  refine hQ _ _ p175hM2 (fun c j h0 h1 h2 h3 h4 h5 h6 h7 h8 h9 h10 h11 h12 h13 h14 h15 h16 h17 h18 h19 h20 h21 h22 h23 h24 h25 h26 h27 h28 h29 => ((p175bfr c j h14 h15).trans (zxcj h16 rfl))) (fun c j h0 h1 h2 h3 h4 h5 h6 => rfl))
def T_G_wn6 : ZT := fun args I L R S Q => ∃ (g : Nat) (lim : Nat) (x : MsT) (i : Nat) (kc : Nat) (o : OrT), args = [zvr 234] ∧ (zSh S) ∧ (zRs R) ∧ (I 234 3 = g) ∧ (g ≤ 1) ∧ (zMs g lim x I L) ∧ (x.2.2.2.2.1 = i) ∧ (zOr g kc i o I) ∧ (kc ≤ 1000) ∧ (i ≤ 599) ∧ (o.1 = 6) ∧ (lim ≤ 300 ∧ x.2.1 ≤ lim) ∧ (x.2.1 = lim) ∧ ∀ (I' : ZI) (L' : ZI), (zMs g lim (x.1, x.2.1, (1, 2), (mNx x (x.2.2.2.2.1 + 1)).2.2.2) I' L') → (∀ c j : Nat, ¬ (c = 234 ∧ j = 28) → ¬ (c = 234 ∧ j = 30) → ¬ (c = 234 ∧ j = 36) → ¬ (c = 234 ∧ j = 38) → ¬ (c = 234 ∧ j = 40) → ¬ (c = 234 ∧ j = 42) → ¬ (c = 234 ∧ j = 44) → ¬ (c = 234 ∧ j = 51) → ¬ (c = 234 ∧ j = 66) → ¬ (c = 234 ∧ j = 53) → ¬ (c = 234 ∧ j = 55) → ¬ (c = 234 ∧ j = 46) → ¬ (c = 234 ∧ j = 47) → ¬ (c = 234 ∧ j = 48) → ¬ (c = 234 ∧ j = 49) → ¬ (c = 234 ∧ j = 50) → ¬ (c = 234 ∧ j = 52) → ¬ (c = 234 ∧ j = 45) → ¬ c = 254 → ¬ c = 255 → ¬ c = 256 → ¬ c = 257 → ¬ c = 258 → ¬ c = 259 → ¬ c = 260 → ¬ c = 261 → ¬ c = 262 → ¬ c = 263 → ¬ c = 264 → ¬ c = 266 → I' c j = I c j) → (∀ c j : Nat, ¬ c = 251 → ¬ c = 252 → ¬ c = 253 → ¬ c = 265 → ¬ c = 267 → ¬ (c = 234 ∧ j = 65) → ¬ (c = 234 ∧ j = 35) → L' c j = L c j) → Q none I' L' R S
theorem sn_G_wn6 : ZSnd 5 12 55 T_G_wn6 := ZSnd.of (zT12_55 4) (by
  rintro args I L R S Q hz ⟨g, lim, x, i, kc, o, rfl, hS, hR, h3, hg, hM, hN, hO, hkc, hi6, hk1, hli, hlm, hQ⟩
  obtain ⟨m1, m2, m3, m4, m5, m6, m7, ⟨m8, m8b⟩, m9, ⟨m10, m10b⟩, m11, m12, m13⟩ := id hM
  obtain ⟨hV1, ⟨hV2, hV2b⟩, hV3, ⟨hV4, hV4b⟩, hV5⟩ := id m1
  obtain ⟨hnx1, hnx2⟩ : r32 x.2.2.2.2.1 := by rw [← m7]; exact hz.1 234 52
  have m4a := m4.1
  have m4b := m4.2
  refine And.intro rfl ?_
  refine And.intro (zA_234 hS) (zrd (v := g) h3 ?_)
  refine And.intro (zA_234 hS) (zrd (v := (x.2.2.2.2.1)) m7 ?_)
  refine And.intro (zA_234 hS) (zrdR (v := some 238) (zR_234_6 hR) ?_)
  refine And.intro (zP_238 hS (by omega) (by omega)) (fun v19 e19 r19 => ?_)
  have f19 : v19 = 6 := (e19.trans ((congrArg (I 238) (by omega)).trans (hO.1.1.trans hk1)))
  refine And.intro (zA_234 hS) (zrd (v := (x.2.2.2.2.1)) m7 ?_)
  refine And.intro (zA_234 hS) ⟨_, (zWi (by omega)), ?_⟩
  refine And.intro r19 (And.intro (And.intro (fun h32 => False.elim (by omega)) (And.intro (fun h32 => False.elim (by omega)) (And.intro (fun h32 => False.elim (by omega)) (And.intro (fun h32 => False.elim (by omega)) (And.intro (fun h32 => False.elim (by omega)) (And.intro (fun h32 => False.elim (by omega)) (And.intro (fun h32 => False.elim (by omega)) (And.intro (fun h32 => False.elim (by omega)) (And.intro (fun h32 => False.elim (by omega)) (And.intro (fun h32 => False.elim (by omega)) (And.intro (fun h32 => False.elim (by omega)) (And.intro (fun h32 => False.elim (by omega)) (And.intro (fun h32 => False.elim (by omega)) True.intro))))))))))))) (fun h32 => ?_))
  refine And.intro (zA_234 hS) (zrdR (v := some 239) (zR_234_7 hR) ?_)
  refine And.intro (zP_239 hS (by omega) (by omega)) (fun v174 e174 r174 => ?_)
  have f174 : v174 = o.2.1 := (e174.trans ((zxcj (by omega) rfl).trans ((congrArg (I 239) (by omega)).trans hO.1.2.1)))
  refine And.intro (zA_234 hS) ⟨_, sn_G_sp0.up (by decide), ?_⟩
  refine ⟨g, lim, (mNx x (x.2.2.2.2.1 + 1)), (v174 : Int), rfl, hS, hR, h3, (by omega), (zMs_n hM ((show _ = (((x.2.2.2.2.1) + 1) : Int) from rfl).trans (by omega)) (fun c j h => (zxcj (by omega) rfl))), hli, hlm, ?_⟩
  intro I175o p175hM2 p175bfr
  refine And.intro (zRb rfl) (zbf rfl ?_)
  refine hQ _ _ p175hM2 (fun c j h0 h1 h2 h3 h4 h5 h6 h7 h8 h9 h10 h11 h12 h13 h14 h15 h16 h17 h18 h19 h20 h21 h22 h23 h24 h25 h26 h27 h28 h29 => ((p175bfr c j h14 h15).trans (zxcj h16 rfl))) (fun c j h0 h1 h2 h3 h4 h5 h6 => rfl))
def T_G_wn7 : ZT := fun args I L R S Q => ∃ (g : Nat) (lim : Nat) (x : MsT) (i : Nat) (kc : Nat) (o : OrT), args = [zvr 234] ∧ (zSh S) ∧ (zRs R) ∧ (I 234 3 = g) ∧ (g ≤ 1) ∧ (zMs g lim x I L) ∧ (x.2.2.2.2.1 = i) ∧ (zOr g kc i o I) ∧ (kc ≤ 1000) ∧ (i ≤ 599) ∧ (o.1 = 7) ∧ (lim ≤ 300 ∧ x.2.1 ≤ lim) ∧ (x.2.1 = lim) ∧ ∀ (I' : ZI) (L' : ZI), (zMs g lim (x.1, x.2.1, (1, 2), (mNx x (x.2.2.2.2.1 + 1)).2.2.2) I' L') → (∀ c j : Nat, ¬ (c = 234 ∧ j = 28) → ¬ (c = 234 ∧ j = 30) → ¬ (c = 234 ∧ j = 36) → ¬ (c = 234 ∧ j = 38) → ¬ (c = 234 ∧ j = 40) → ¬ (c = 234 ∧ j = 42) → ¬ (c = 234 ∧ j = 44) → ¬ (c = 234 ∧ j = 51) → ¬ (c = 234 ∧ j = 66) → ¬ (c = 234 ∧ j = 53) → ¬ (c = 234 ∧ j = 55) → ¬ (c = 234 ∧ j = 46) → ¬ (c = 234 ∧ j = 47) → ¬ (c = 234 ∧ j = 48) → ¬ (c = 234 ∧ j = 49) → ¬ (c = 234 ∧ j = 50) → ¬ (c = 234 ∧ j = 52) → ¬ (c = 234 ∧ j = 45) → ¬ c = 254 → ¬ c = 255 → ¬ c = 256 → ¬ c = 257 → ¬ c = 258 → ¬ c = 259 → ¬ c = 260 → ¬ c = 261 → ¬ c = 262 → ¬ c = 263 → ¬ c = 264 → ¬ c = 266 → I' c j = I c j) → (∀ c j : Nat, ¬ c = 251 → ¬ c = 252 → ¬ c = 253 → ¬ c = 265 → ¬ c = 267 → ¬ (c = 234 ∧ j = 65) → ¬ (c = 234 ∧ j = 35) → L' c j = L c j) → Q none I' L' R S
theorem sn_G_wn7 : ZSnd 5 12 55 T_G_wn7 := ZSnd.of (zT12_55 4) (by
  rintro args I L R S Q hz ⟨g, lim, x, i, kc, o, rfl, hS, hR, h3, hg, hM, hN, hO, hkc, hi6, hk1, hli, hlm, hQ⟩
  obtain ⟨m1, m2, m3, m4, m5, m6, m7, ⟨m8, m8b⟩, m9, ⟨m10, m10b⟩, m11, m12, m13⟩ := id hM
  obtain ⟨hV1, ⟨hV2, hV2b⟩, hV3, ⟨hV4, hV4b⟩, hV5⟩ := id m1
  obtain ⟨hnx1, hnx2⟩ : r32 x.2.2.2.2.1 := by rw [← m7]; exact hz.1 234 52
  have m4a := m4.1
  have m4b := m4.2
  refine And.intro rfl ?_
  refine And.intro (zA_234 hS) (zrd (v := g) h3 ?_)
  refine And.intro (zA_234 hS) (zrd (v := (x.2.2.2.2.1)) m7 ?_)
  refine And.intro (zA_234 hS) (zrdR (v := some 238) (zR_234_6 hR) ?_)
  refine And.intro (zP_238 hS (by omega) (by omega)) (fun v19 e19 r19 => ?_)
  have f19 : v19 = 7 := (e19.trans ((congrArg (I 238) (by omega)).trans (hO.1.1.trans hk1)))
  refine And.intro (zA_234 hS) (zrd (v := (x.2.2.2.2.1)) m7 ?_)
  refine And.intro (zA_234 hS) ⟨_, (zWi (by omega)), ?_⟩
  refine And.intro r19 (And.intro (And.intro (fun h32 => False.elim (by omega)) (And.intro (fun h32 => False.elim (by omega)) (And.intro (fun h32 => False.elim (by omega)) (And.intro (fun h32 => False.elim (by omega)) (And.intro (fun h32 => False.elim (by omega)) (And.intro (fun h32 => False.elim (by omega)) (And.intro (fun h32 => False.elim (by omega)) (And.intro (fun h32 => False.elim (by omega)) (And.intro (fun h32 => False.elim (by omega)) (And.intro (fun h32 => False.elim (by omega)) (And.intro (fun h32 => False.elim (by omega)) (And.intro (fun h32 => False.elim (by omega)) (And.intro (fun h32 => False.elim (by omega)) True.intro))))))))))))) (fun h32 => ?_))
  refine And.intro (zA_234 hS) (zrdR (v := some 239) (zR_234_7 hR) ?_)
  refine And.intro (zP_239 hS (by omega) (by omega)) (fun v174 e174 r174 => ?_)
  have f174 : v174 = o.2.1 := (e174.trans ((zxcj (by omega) rfl).trans ((congrArg (I 239) (by omega)).trans hO.1.2.1)))
  refine And.intro (zA_234 hS) ⟨_, sn_G_sp0.up (by decide), ?_⟩
  refine ⟨g, lim, (mNx x (x.2.2.2.2.1 + 1)), (v174 : Int), rfl, hS, hR, h3, (by omega), (zMs_n hM ((show _ = (((x.2.2.2.2.1) + 1) : Int) from rfl).trans (by omega)) (fun c j h => (zxcj (by omega) rfl))), hli, hlm, ?_⟩
  intro I175o p175hM2 p175bfr
  refine And.intro (zRb rfl) (zbf rfl ?_)
  refine hQ _ _ p175hM2 (fun c j h0 h1 h2 h3 h4 h5 h6 h7 h8 h9 h10 h11 h12 h13 h14 h15 h16 h17 h18 h19 h20 h21 h22 h23 h24 h25 h26 h27 h28 h29 => ((p175bfr c j h14 h15).trans (zxcj h16 rfl))) (fun c j h0 h1 h2 h3 h4 h5 h6 => rfl))
def T_G_wn9 : ZT := fun args I L R S Q => ∃ (g : Nat) (lim : Nat) (x : MsT) (i : Nat) (kc : Nat) (o : OrT), args = [zvr 234] ∧ (zSh S) ∧ (zRs R) ∧ (I 234 3 = g) ∧ (g ≤ 1) ∧ (zMs g lim x I L) ∧ (x.2.2.2.2.1 = i) ∧ (zOr g kc i o I) ∧ (kc ≤ 1000) ∧ (i ≤ 599) ∧ (o.1 = 9) ∧ (lim ≤ 300 ∧ x.2.1 ≤ lim) ∧ (x.2.1 = lim) ∧ ∀ (I' : ZI) (L' : ZI), (zMs g lim (x.1, x.2.1, (1, 2), (mNx x (x.2.2.2.2.1 + 1)).2.2.2) I' L') → (∀ c j : Nat, ¬ (c = 234 ∧ j = 28) → ¬ (c = 234 ∧ j = 30) → ¬ (c = 234 ∧ j = 36) → ¬ (c = 234 ∧ j = 38) → ¬ (c = 234 ∧ j = 40) → ¬ (c = 234 ∧ j = 42) → ¬ (c = 234 ∧ j = 44) → ¬ (c = 234 ∧ j = 51) → ¬ (c = 234 ∧ j = 66) → ¬ (c = 234 ∧ j = 53) → ¬ (c = 234 ∧ j = 55) → ¬ (c = 234 ∧ j = 46) → ¬ (c = 234 ∧ j = 47) → ¬ (c = 234 ∧ j = 48) → ¬ (c = 234 ∧ j = 49) → ¬ (c = 234 ∧ j = 50) → ¬ (c = 234 ∧ j = 52) → ¬ (c = 234 ∧ j = 45) → ¬ c = 254 → ¬ c = 255 → ¬ c = 256 → ¬ c = 257 → ¬ c = 258 → ¬ c = 259 → ¬ c = 260 → ¬ c = 261 → ¬ c = 262 → ¬ c = 263 → ¬ c = 264 → ¬ c = 266 → I' c j = I c j) → (∀ c j : Nat, ¬ c = 251 → ¬ c = 252 → ¬ c = 253 → ¬ c = 265 → ¬ c = 267 → ¬ (c = 234 ∧ j = 65) → ¬ (c = 234 ∧ j = 35) → L' c j = L c j) → Q none I' L' R S
theorem sn_G_wn9 : ZSnd 5 12 55 T_G_wn9 := ZSnd.of (zT12_55 4) (by
  rintro args I L R S Q hz ⟨g, lim, x, i, kc, o, rfl, hS, hR, h3, hg, hM, hN, hO, hkc, hi6, hk1, hli, hlm, hQ⟩
  obtain ⟨m1, m2, m3, m4, m5, m6, m7, ⟨m8, m8b⟩, m9, ⟨m10, m10b⟩, m11, m12, m13⟩ := id hM
  obtain ⟨hV1, ⟨hV2, hV2b⟩, hV3, ⟨hV4, hV4b⟩, hV5⟩ := id m1
  obtain ⟨hnx1, hnx2⟩ : r32 x.2.2.2.2.1 := by rw [← m7]; exact hz.1 234 52
  have m4a := m4.1
  have m4b := m4.2
  refine And.intro rfl ?_
  refine And.intro (zA_234 hS) (zrd (v := g) h3 ?_)
  refine And.intro (zA_234 hS) (zrd (v := (x.2.2.2.2.1)) m7 ?_)
  refine And.intro (zA_234 hS) (zrdR (v := some 238) (zR_234_6 hR) ?_)
  refine And.intro (zP_238 hS (by omega) (by omega)) (fun v19 e19 r19 => ?_)
  have f19 : v19 = 9 := (e19.trans ((congrArg (I 238) (by omega)).trans (hO.1.1.trans hk1)))
  refine And.intro (zA_234 hS) (zrd (v := (x.2.2.2.2.1)) m7 ?_)
  refine And.intro (zA_234 hS) ⟨_, (zWi (by omega)), ?_⟩
  refine And.intro r19 (And.intro (And.intro (fun h32 => False.elim (by omega)) (And.intro (fun h32 => ?_) (And.intro (fun h32 => False.elim (by omega)) (And.intro (fun h32 => False.elim (by omega)) (And.intro (fun h32 => False.elim (by omega)) (And.intro (fun h32 => False.elim (by omega)) (And.intro (fun h32 => False.elim (by omega)) (And.intro (fun h32 => False.elim (by omega)) (And.intro (fun h32 => False.elim (by omega)) (And.intro (fun h32 => False.elim (by omega)) (And.intro (fun h32 => False.elim (by omega)) (And.intro (fun h32 => False.elim (by omega)) (And.intro (fun h32 => False.elim (by omega)) True.intro))))))))))))) (fun h32 => False.elim (by omega)))
  refine And.intro (zA_234 hS) (zrdR (v := some 239) (zR_234_7 hR) ?_)
  refine And.intro (zP_239 hS (by omega) (by omega)) (fun v174 e174 r174 => ?_)
  have f174 : v174 = o.2.1 := (e174.trans ((zxcj (by omega) rfl).trans ((congrArg (I 239) (by omega)).trans hO.1.2.1)))
  refine And.intro (zA_234 hS) ⟨_, sn_G_sp0.up (by decide), ?_⟩
  refine ⟨g, lim, (mNx x (x.2.2.2.2.1 + 1)), (v174 : Int), rfl, hS, hR, h3, (by omega), (zMs_n hM ((show _ = (((x.2.2.2.2.1) + 1) : Int) from rfl).trans (by omega)) (fun c j h => (zxcj (by omega) rfl))), hli, hlm, ?_⟩
  intro I175o p175hM2 p175bfr
  refine And.intro (zRb rfl) (zbf rfl ?_)
  refine hQ _ _ p175hM2 (fun c j h0 h1 h2 h3 h4 h5 h6 h7 h8 h9 h10 h11 h12 h13 h14 h15 h16 h17 h18 h19 h20 h21 h22 h23 h24 h25 h26 h27 h28 h29 => ((p175bfr c j h14 h15).trans (zxcj h16 rfl))) (fun c j h0 h1 h2 h3 h4 h5 h6 => rfl))
def T_G_wn12 : ZT := fun args I L R S Q => ∃ (g : Nat) (lim : Nat) (x : MsT) (i : Nat) (kc : Nat) (o : OrT), args = [zvr 234] ∧ (zSh S) ∧ (zRs R) ∧ (I 234 3 = g) ∧ (g ≤ 1) ∧ (zMs g lim x I L) ∧ (x.2.2.2.2.1 = i) ∧ (zOr g kc i o I) ∧ (kc ≤ 1000) ∧ (i ≤ 599) ∧ (o.1 = 12) ∧ (lim ≤ 300 ∧ x.2.1 ≤ lim) ∧ (x.2.1 = lim) ∧ ∀ (I' : ZI) (L' : ZI), (zMs g lim (x.1, x.2.1, (1, 2), (mNx x (x.2.2.2.2.1 + 1)).2.2.2) I' L') → (∀ c j : Nat, ¬ (c = 234 ∧ j = 28) → ¬ (c = 234 ∧ j = 30) → ¬ (c = 234 ∧ j = 36) → ¬ (c = 234 ∧ j = 38) → ¬ (c = 234 ∧ j = 40) → ¬ (c = 234 ∧ j = 42) → ¬ (c = 234 ∧ j = 44) → ¬ (c = 234 ∧ j = 51) → ¬ (c = 234 ∧ j = 66) → ¬ (c = 234 ∧ j = 53) → ¬ (c = 234 ∧ j = 55) → ¬ (c = 234 ∧ j = 46) → ¬ (c = 234 ∧ j = 47) → ¬ (c = 234 ∧ j = 48) → ¬ (c = 234 ∧ j = 49) → ¬ (c = 234 ∧ j = 50) → ¬ (c = 234 ∧ j = 52) → ¬ (c = 234 ∧ j = 45) → ¬ c = 254 → ¬ c = 255 → ¬ c = 256 → ¬ c = 257 → ¬ c = 258 → ¬ c = 259 → ¬ c = 260 → ¬ c = 261 → ¬ c = 262 → ¬ c = 263 → ¬ c = 264 → ¬ c = 266 → I' c j = I c j) → (∀ c j : Nat, ¬ c = 251 → ¬ c = 252 → ¬ c = 253 → ¬ c = 265 → ¬ c = 267 → ¬ (c = 234 ∧ j = 65) → ¬ (c = 234 ∧ j = 35) → L' c j = L c j) → Q none I' L' R S
theorem sn_G_wn12 : ZSnd 5 12 55 T_G_wn12 := ZSnd.of (zT12_55 4) (by
  rintro args I L R S Q hz ⟨g, lim, x, i, kc, o, rfl, hS, hR, h3, hg, hM, hN, hO, hkc, hi6, hk1, hli, hlm, hQ⟩
  obtain ⟨m1, m2, m3, m4, m5, m6, m7, ⟨m8, m8b⟩, m9, ⟨m10, m10b⟩, m11, m12, m13⟩ := id hM
  obtain ⟨hV1, ⟨hV2, hV2b⟩, hV3, ⟨hV4, hV4b⟩, hV5⟩ := id m1
  obtain ⟨hnx1, hnx2⟩ : r32 x.2.2.2.2.1 := by rw [← m7]; exact hz.1 234 52
  have m4a := m4.1
  have m4b := m4.2
  refine And.intro rfl ?_
  refine And.intro (zA_234 hS) (zrd (v := g) h3 ?_)
  refine And.intro (zA_234 hS) (zrd (v := (x.2.2.2.2.1)) m7 ?_)
  refine And.intro (zA_234 hS) (zrdR (v := some 238) (zR_234_6 hR) ?_)
  refine And.intro (zP_238 hS (by omega) (by omega)) (fun v19 e19 r19 => ?_)
  have f19 : v19 = 12 := (e19.trans ((congrArg (I 238) (by omega)).trans (hO.1.1.trans hk1)))
  refine And.intro (zA_234 hS) (zrd (v := (x.2.2.2.2.1)) m7 ?_)
  refine And.intro (zA_234 hS) ⟨_, (zWi (by omega)), ?_⟩
  refine And.intro r19 (And.intro (And.intro (fun h32 => False.elim (by omega)) (And.intro (fun h32 => False.elim (by omega)) (And.intro (fun h32 => False.elim (by omega)) (And.intro (fun h32 => False.elim (by omega)) (And.intro (fun h32 => ?_) (And.intro (fun h32 => False.elim (by omega)) (And.intro (fun h32 => False.elim (by omega)) (And.intro (fun h32 => False.elim (by omega)) (And.intro (fun h32 => False.elim (by omega)) (And.intro (fun h32 => False.elim (by omega)) (And.intro (fun h32 => False.elim (by omega)) (And.intro (fun h32 => False.elim (by omega)) (And.intro (fun h32 => False.elim (by omega)) True.intro))))))))))))) (fun h32 => False.elim (by omega)))
  refine And.intro (zA_234 hS) (zrdR (v := some 239) (zR_234_7 hR) ?_)
  refine And.intro (zP_239 hS (by omega) (by omega)) (fun v174 e174 r174 => ?_)
  have f174 : v174 = o.2.1 := (e174.trans ((zxcj (by omega) rfl).trans ((congrArg (I 239) (by omega)).trans hO.1.2.1)))
  refine And.intro (zA_234 hS) ⟨_, sn_G_sp0.up (by decide), ?_⟩
  refine ⟨g, lim, (mNx x (x.2.2.2.2.1 + 1)), (v174 : Int), rfl, hS, hR, h3, (by omega), (zMs_n hM ((show _ = (((x.2.2.2.2.1) + 1) : Int) from rfl).trans (by omega)) (fun c j h => (zxcj (by omega) rfl))), hli, hlm, ?_⟩
  intro I175o p175hM2 p175bfr
  refine And.intro (zRb rfl) (zbf rfl ?_)
  refine hQ _ _ p175hM2 (fun c j h0 h1 h2 h3 h4 h5 h6 h7 h8 h9 h10 h11 h12 h13 h14 h15 h16 h17 h18 h19 h20 h21 h22 h23 h24 h25 h26 h27 h28 h29 => ((p175bfr c j h14 h15).trans (zxcj h16 rfl))) (fun c j h0 h1 h2 h3 h4 h5 h6 => rfl))
def T_G_wn13 : ZT := fun args I L R S Q => ∃ (g : Nat) (lim : Nat) (x : MsT) (i : Nat) (kc : Nat) (o : OrT), args = [zvr 234] ∧ (zSh S) ∧ (zRs R) ∧ (I 234 3 = g) ∧ (g ≤ 1) ∧ (zMs g lim x I L) ∧ (x.2.2.2.2.1 = i) ∧ (zOr g kc i o I) ∧ (kc ≤ 1000) ∧ (i ≤ 599) ∧ (o.1 = 13) ∧ (lim ≤ 300 ∧ x.2.1 ≤ lim) ∧ (x.2.1 = lim) ∧ ∀ (I' : ZI) (L' : ZI), (zMs g lim (x.1, x.2.1, (1, 2), (mNx x (x.2.2.2.2.1 + 1)).2.2.2) I' L') → (∀ c j : Nat, ¬ (c = 234 ∧ j = 28) → ¬ (c = 234 ∧ j = 30) → ¬ (c = 234 ∧ j = 36) → ¬ (c = 234 ∧ j = 38) → ¬ (c = 234 ∧ j = 40) → ¬ (c = 234 ∧ j = 42) → ¬ (c = 234 ∧ j = 44) → ¬ (c = 234 ∧ j = 51) → ¬ (c = 234 ∧ j = 66) → ¬ (c = 234 ∧ j = 53) → ¬ (c = 234 ∧ j = 55) → ¬ (c = 234 ∧ j = 46) → ¬ (c = 234 ∧ j = 47) → ¬ (c = 234 ∧ j = 48) → ¬ (c = 234 ∧ j = 49) → ¬ (c = 234 ∧ j = 50) → ¬ (c = 234 ∧ j = 52) → ¬ (c = 234 ∧ j = 45) → ¬ c = 254 → ¬ c = 255 → ¬ c = 256 → ¬ c = 257 → ¬ c = 258 → ¬ c = 259 → ¬ c = 260 → ¬ c = 261 → ¬ c = 262 → ¬ c = 263 → ¬ c = 264 → ¬ c = 266 → I' c j = I c j) → (∀ c j : Nat, ¬ c = 251 → ¬ c = 252 → ¬ c = 253 → ¬ c = 265 → ¬ c = 267 → ¬ (c = 234 ∧ j = 65) → ¬ (c = 234 ∧ j = 35) → L' c j = L c j) → Q none I' L' R S
theorem sn_G_wn13 : ZSnd 5 12 55 T_G_wn13 := ZSnd.of (zT12_55 4) (by
  rintro args I L R S Q hz ⟨g, lim, x, i, kc, o, rfl, hS, hR, h3, hg, hM, hN, hO, hkc, hi6, hk1, hli, hlm, hQ⟩
  obtain ⟨m1, m2, m3, m4, m5, m6, m7, ⟨m8, m8b⟩, m9, ⟨m10, m10b⟩, m11, m12, m13⟩ := id hM
  obtain ⟨hV1, ⟨hV2, hV2b⟩, hV3, ⟨hV4, hV4b⟩, hV5⟩ := id m1
  obtain ⟨hnx1, hnx2⟩ : r32 x.2.2.2.2.1 := by rw [← m7]; exact hz.1 234 52
  have m4a := m4.1
  have m4b := m4.2
  refine And.intro rfl ?_
  refine And.intro (zA_234 hS) (zrd (v := g) h3 ?_)
  refine And.intro (zA_234 hS) (zrd (v := (x.2.2.2.2.1)) m7 ?_)
  refine And.intro (zA_234 hS) (zrdR (v := some 238) (zR_234_6 hR) ?_)
  refine And.intro (zP_238 hS (by omega) (by omega)) (fun v19 e19 r19 => ?_)
  have f19 : v19 = 13 := (e19.trans ((congrArg (I 238) (by omega)).trans (hO.1.1.trans hk1)))
  refine And.intro (zA_234 hS) (zrd (v := (x.2.2.2.2.1)) m7 ?_)
  refine And.intro (zA_234 hS) ⟨_, (zWi (by omega)), ?_⟩
  refine And.intro r19 (And.intro (And.intro (fun h32 => False.elim (by omega)) (And.intro (fun h32 => False.elim (by omega)) (And.intro (fun h32 => False.elim (by omega)) (And.intro (fun h32 => False.elim (by omega)) (And.intro (fun h32 => False.elim (by omega)) (And.intro (fun h32 => ?_) (And.intro (fun h32 => False.elim (by omega)) (And.intro (fun h32 => False.elim (by omega)) (And.intro (fun h32 => False.elim (by omega)) (And.intro (fun h32 => False.elim (by omega)) (And.intro (fun h32 => False.elim (by omega)) (And.intro (fun h32 => False.elim (by omega)) (And.intro (fun h32 => False.elim (by omega)) True.intro))))))))))))) (fun h32 => False.elim (by omega)))
  refine And.intro (zA_234 hS) (zrdR (v := some 239) (zR_234_7 hR) ?_)
  refine And.intro (zP_239 hS (by omega) (by omega)) (fun v174 e174 r174 => ?_)
  have f174 : v174 = o.2.1 := (e174.trans ((zxcj (by omega) rfl).trans ((congrArg (I 239) (by omega)).trans hO.1.2.1)))
  refine And.intro (zA_234 hS) ⟨_, sn_G_sp0.up (by decide), ?_⟩
  refine ⟨g, lim, (mNx x (x.2.2.2.2.1 + 1)), (v174 : Int), rfl, hS, hR, h3, (by omega), (zMs_n hM ((show _ = (((x.2.2.2.2.1) + 1) : Int) from rfl).trans (by omega)) (fun c j h => (zxcj (by omega) rfl))), hli, hlm, ?_⟩
  intro I175o p175hM2 p175bfr
  refine And.intro (zRb rfl) (zbf rfl ?_)
  refine hQ _ _ p175hM2 (fun c j h0 h1 h2 h3 h4 h5 h6 h7 h8 h9 h10 h11 h12 h13 h14 h15 h16 h17 h18 h19 h20 h21 h22 h23 h24 h25 h26 h27 h28 h29 => ((p175bfr c j h14 h15).trans (zxcj h16 rfl))) (fun c j h0 h1 h2 h3 h4 h5 h6 => rfl))
def T_G_wn14 : ZT := fun args I L R S Q => ∃ (g : Nat) (lim : Nat) (x : MsT) (i : Nat) (kc : Nat) (o : OrT), args = [zvr 234] ∧ (zSh S) ∧ (zRs R) ∧ (I 234 3 = g) ∧ (g ≤ 1) ∧ (zMs g lim x I L) ∧ (x.2.2.2.2.1 = i) ∧ (zOr g kc i o I) ∧ (kc ≤ 1000) ∧ (i ≤ 599) ∧ (o.1 = 14) ∧ (lim ≤ 300 ∧ x.2.1 ≤ lim) ∧ (x.2.1 = lim) ∧ ∀ (I' : ZI) (L' : ZI), (zMs g lim (x.1, x.2.1, (1, 2), (mNx x (x.2.2.2.2.1 + 1)).2.2.2) I' L') → (∀ c j : Nat, ¬ (c = 234 ∧ j = 28) → ¬ (c = 234 ∧ j = 30) → ¬ (c = 234 ∧ j = 36) → ¬ (c = 234 ∧ j = 38) → ¬ (c = 234 ∧ j = 40) → ¬ (c = 234 ∧ j = 42) → ¬ (c = 234 ∧ j = 44) → ¬ (c = 234 ∧ j = 51) → ¬ (c = 234 ∧ j = 66) → ¬ (c = 234 ∧ j = 53) → ¬ (c = 234 ∧ j = 55) → ¬ (c = 234 ∧ j = 46) → ¬ (c = 234 ∧ j = 47) → ¬ (c = 234 ∧ j = 48) → ¬ (c = 234 ∧ j = 49) → ¬ (c = 234 ∧ j = 50) → ¬ (c = 234 ∧ j = 52) → ¬ (c = 234 ∧ j = 45) → ¬ c = 254 → ¬ c = 255 → ¬ c = 256 → ¬ c = 257 → ¬ c = 258 → ¬ c = 259 → ¬ c = 260 → ¬ c = 261 → ¬ c = 262 → ¬ c = 263 → ¬ c = 264 → ¬ c = 266 → I' c j = I c j) → (∀ c j : Nat, ¬ c = 251 → ¬ c = 252 → ¬ c = 253 → ¬ c = 265 → ¬ c = 267 → ¬ (c = 234 ∧ j = 65) → ¬ (c = 234 ∧ j = 35) → L' c j = L c j) → Q none I' L' R S
theorem sn_G_wn14 : ZSnd 5 12 55 T_G_wn14 := ZSnd.of (zT12_55 4) (by
  rintro args I L R S Q hz ⟨g, lim, x, i, kc, o, rfl, hS, hR, h3, hg, hM, hN, hO, hkc, hi6, hk1, hli, hlm, hQ⟩
  obtain ⟨m1, m2, m3, m4, m5, m6, m7, ⟨m8, m8b⟩, m9, ⟨m10, m10b⟩, m11, m12, m13⟩ := id hM
  obtain ⟨hV1, ⟨hV2, hV2b⟩, hV3, ⟨hV4, hV4b⟩, hV5⟩ := id m1
  obtain ⟨hnx1, hnx2⟩ : r32 x.2.2.2.2.1 := by rw [← m7]; exact hz.1 234 52
  have m4a := m4.1
  have m4b := m4.2
  refine And.intro rfl ?_
  refine And.intro (zA_234 hS) (zrd (v := g) h3 ?_)
  refine And.intro (zA_234 hS) (zrd (v := (x.2.2.2.2.1)) m7 ?_)
  refine And.intro (zA_234 hS) (zrdR (v := some 238) (zR_234_6 hR) ?_)
  refine And.intro (zP_238 hS (by omega) (by omega)) (fun v19 e19 r19 => ?_)
  have f19 : v19 = 14 := (e19.trans ((congrArg (I 238) (by omega)).trans (hO.1.1.trans hk1)))
  refine And.intro (zA_234 hS) (zrd (v := (x.2.2.2.2.1)) m7 ?_)
  refine And.intro (zA_234 hS) ⟨_, (zWi (by omega)), ?_⟩
  refine And.intro r19 (And.intro (And.intro (fun h32 => False.elim (by omega)) (And.intro (fun h32 => False.elim (by omega)) (And.intro (fun h32 => False.elim (by omega)) (And.intro (fun h32 => False.elim (by omega)) (And.intro (fun h32 => False.elim (by omega)) (And.intro (fun h32 => False.elim (by omega)) (And.intro (fun h32 => ?_) (And.intro (fun h32 => False.elim (by omega)) (And.intro (fun h32 => False.elim (by omega)) (And.intro (fun h32 => False.elim (by omega)) (And.intro (fun h32 => False.elim (by omega)) (And.intro (fun h32 => False.elim (by omega)) (And.intro (fun h32 => False.elim (by omega)) True.intro))))))))))))) (fun h32 => False.elim (by omega)))
  refine And.intro (zA_234 hS) (zrdR (v := some 239) (zR_234_7 hR) ?_)
  refine And.intro (zP_239 hS (by omega) (by omega)) (fun v174 e174 r174 => ?_)
  have f174 : v174 = o.2.1 := (e174.trans ((zxcj (by omega) rfl).trans ((congrArg (I 239) (by omega)).trans hO.1.2.1)))
  refine And.intro (zA_234 hS) ⟨_, sn_G_sp0.up (by decide), ?_⟩
  refine ⟨g, lim, (mNx x (x.2.2.2.2.1 + 1)), (v174 : Int), rfl, hS, hR, h3, (by omega), (zMs_n hM ((show _ = (((x.2.2.2.2.1) + 1) : Int) from rfl).trans (by omega)) (fun c j h => (zxcj (by omega) rfl))), hli, hlm, ?_⟩
  intro I175o p175hM2 p175bfr
  refine And.intro (zRb rfl) (zbf rfl ?_)
  refine hQ _ _ p175hM2 (fun c j h0 h1 h2 h3 h4 h5 h6 h7 h8 h9 h10 h11 h12 h13 h14 h15 h16 h17 h18 h19 h20 h21 h22 h23 h24 h25 h26 h27 h28 h29 => ((p175bfr c j h14 h15).trans (zxcj h16 rfl))) (fun c j h0 h1 h2 h3 h4 h5 h6 => rfl))
def T_G_wn15 : ZT := fun args I L R S Q => ∃ (g : Nat) (lim : Nat) (x : MsT) (i : Nat) (kc : Nat) (o : OrT), args = [zvr 234] ∧ (zSh S) ∧ (zRs R) ∧ (I 234 3 = g) ∧ (g ≤ 1) ∧ (zMs g lim x I L) ∧ (x.2.2.2.2.1 = i) ∧ (zOr g kc i o I) ∧ (kc ≤ 1000) ∧ (i ≤ 599) ∧ (o.1 = 15) ∧ (lim ≤ 300 ∧ x.2.1 ≤ lim) ∧ (x.2.1 = lim) ∧ ∀ (I' : ZI) (L' : ZI), (zMs g lim (x.1, x.2.1, (1, 2), (mNx x (x.2.2.2.2.1 + 1)).2.2.2) I' L') → (∀ c j : Nat, ¬ (c = 234 ∧ j = 28) → ¬ (c = 234 ∧ j = 30) → ¬ (c = 234 ∧ j = 36) → ¬ (c = 234 ∧ j = 38) → ¬ (c = 234 ∧ j = 40) → ¬ (c = 234 ∧ j = 42) → ¬ (c = 234 ∧ j = 44) → ¬ (c = 234 ∧ j = 51) → ¬ (c = 234 ∧ j = 66) → ¬ (c = 234 ∧ j = 53) → ¬ (c = 234 ∧ j = 55) → ¬ (c = 234 ∧ j = 46) → ¬ (c = 234 ∧ j = 47) → ¬ (c = 234 ∧ j = 48) → ¬ (c = 234 ∧ j = 49) → ¬ (c = 234 ∧ j = 50) → ¬ (c = 234 ∧ j = 52) → ¬ (c = 234 ∧ j = 45) → ¬ c = 254 → ¬ c = 255 → ¬ c = 256 → ¬ c = 257 → ¬ c = 258 → ¬ c = 259 → ¬ c = 260 → ¬ c = 261 → ¬ c = 262 → ¬ c = 263 → ¬ c = 264 → ¬ c = 266 → I' c j = I c j) → (∀ c j : Nat, ¬ c = 251 → ¬ c = 252 → ¬ c = 253 → ¬ c = 265 → ¬ c = 267 → ¬ (c = 234 ∧ j = 65) → ¬ (c = 234 ∧ j = 35) → L' c j = L c j) → Q none I' L' R S
theorem sn_G_wn15 : ZSnd 5 12 55 T_G_wn15 := ZSnd.of (zT12_55 4) (by
  rintro args I L R S Q hz ⟨g, lim, x, i, kc, o, rfl, hS, hR, h3, hg, hM, hN, hO, hkc, hi6, hk1, hli, hlm, hQ⟩
  obtain ⟨m1, m2, m3, m4, m5, m6, m7, ⟨m8, m8b⟩, m9, ⟨m10, m10b⟩, m11, m12, m13⟩ := id hM
  obtain ⟨hV1, ⟨hV2, hV2b⟩, hV3, ⟨hV4, hV4b⟩, hV5⟩ := id m1
  obtain ⟨hnx1, hnx2⟩ : r32 x.2.2.2.2.1 := by rw [← m7]; exact hz.1 234 52
  have m4a := m4.1
  have m4b := m4.2
  refine And.intro rfl ?_
  refine And.intro (zA_234 hS) (zrd (v := g) h3 ?_)
  refine And.intro (zA_234 hS) (zrd (v := (x.2.2.2.2.1)) m7 ?_)
  refine And.intro (zA_234 hS) (zrdR (v := some 238) (zR_234_6 hR) ?_)
  refine And.intro (zP_238 hS (by omega) (by omega)) (fun v19 e19 r19 => ?_)
  have f19 : v19 = 15 := (e19.trans ((congrArg (I 238) (by omega)).trans (hO.1.1.trans hk1)))
  refine And.intro (zA_234 hS) (zrd (v := (x.2.2.2.2.1)) m7 ?_)
  refine And.intro (zA_234 hS) ⟨_, (zWi (by omega)), ?_⟩
  refine And.intro r19 (And.intro (And.intro (fun h32 => False.elim (by omega)) (And.intro (fun h32 => False.elim (by omega)) (And.intro (fun h32 => False.elim (by omega)) (And.intro (fun h32 => False.elim (by omega)) (And.intro (fun h32 => False.elim (by omega)) (And.intro (fun h32 => False.elim (by omega)) (And.intro (fun h32 => False.elim (by omega)) (And.intro (fun h32 => ?_) (And.intro (fun h32 => False.elim (by omega)) (And.intro (fun h32 => False.elim (by omega)) (And.intro (fun h32 => False.elim (by omega)) (And.intro (fun h32 => False.elim (by omega)) (And.intro (fun h32 => False.elim (by omega)) True.intro))))))))))))) (fun h32 => False.elim (by omega)))
  refine And.intro (zA_234 hS) (zrdR (v := some 239) (zR_234_7 hR) ?_)
  refine And.intro (zP_239 hS (by omega) (by omega)) (fun v174 e174 r174 => ?_)
  have f174 : v174 = o.2.1 := (e174.trans ((zxcj (by omega) rfl).trans ((congrArg (I 239) (by omega)).trans hO.1.2.1)))
  refine And.intro (zA_234 hS) ⟨_, sn_G_sp0.up (by decide), ?_⟩
  refine ⟨g, lim, (mNx x (x.2.2.2.2.1 + 1)), (v174 : Int), rfl, hS, hR, h3, (by omega), (zMs_n hM ((show _ = (((x.2.2.2.2.1) + 1) : Int) from rfl).trans (by omega)) (fun c j h => (zxcj (by omega) rfl))), hli, hlm, ?_⟩
  intro I175o p175hM2 p175bfr
  refine And.intro (zRb rfl) (zbf rfl ?_)
  refine hQ _ _ p175hM2 (fun c j h0 h1 h2 h3 h4 h5 h6 h7 h8 h9 h10 h11 h12 h13 h14 h15 h16 h17 h18 h19 h20 h21 h22 h23 h24 h25 h26 h27 h28 h29 => ((p175bfr c j h14 h15).trans (zxcj h16 rfl))) (fun c j h0 h1 h2 h3 h4 h5 h6 => rfl))
def T_G_wn16 : ZT := fun args I L R S Q => ∃ (g : Nat) (lim : Nat) (x : MsT) (i : Nat) (kc : Nat) (o : OrT), args = [zvr 234] ∧ (zSh S) ∧ (zRs R) ∧ (I 234 3 = g) ∧ (g ≤ 1) ∧ (zMs g lim x I L) ∧ (x.2.2.2.2.1 = i) ∧ (zOr g kc i o I) ∧ (kc ≤ 1000) ∧ (i ≤ 599) ∧ (o.1 = 16) ∧ (lim ≤ 300 ∧ x.2.1 ≤ lim) ∧ (x.2.1 = lim) ∧ ∀ (I' : ZI) (L' : ZI), (zMs g lim (x.1, x.2.1, (1, 2), (mNx x (x.2.2.2.2.1 + 1)).2.2.2) I' L') → (∀ c j : Nat, ¬ (c = 234 ∧ j = 28) → ¬ (c = 234 ∧ j = 30) → ¬ (c = 234 ∧ j = 36) → ¬ (c = 234 ∧ j = 38) → ¬ (c = 234 ∧ j = 40) → ¬ (c = 234 ∧ j = 42) → ¬ (c = 234 ∧ j = 44) → ¬ (c = 234 ∧ j = 51) → ¬ (c = 234 ∧ j = 66) → ¬ (c = 234 ∧ j = 53) → ¬ (c = 234 ∧ j = 55) → ¬ (c = 234 ∧ j = 46) → ¬ (c = 234 ∧ j = 47) → ¬ (c = 234 ∧ j = 48) → ¬ (c = 234 ∧ j = 49) → ¬ (c = 234 ∧ j = 50) → ¬ (c = 234 ∧ j = 52) → ¬ (c = 234 ∧ j = 45) → ¬ c = 254 → ¬ c = 255 → ¬ c = 256 → ¬ c = 257 → ¬ c = 258 → ¬ c = 259 → ¬ c = 260 → ¬ c = 261 → ¬ c = 262 → ¬ c = 263 → ¬ c = 264 → ¬ c = 266 → I' c j = I c j) → (∀ c j : Nat, ¬ c = 251 → ¬ c = 252 → ¬ c = 253 → ¬ c = 265 → ¬ c = 267 → ¬ (c = 234 ∧ j = 65) → ¬ (c = 234 ∧ j = 35) → L' c j = L c j) → Q none I' L' R S
theorem sn_G_wn16 : ZSnd 5 12 55 T_G_wn16 := ZSnd.of (zT12_55 4) (by
  rintro args I L R S Q hz ⟨g, lim, x, i, kc, o, rfl, hS, hR, h3, hg, hM, hN, hO, hkc, hi6, hk1, hli, hlm, hQ⟩
  obtain ⟨m1, m2, m3, m4, m5, m6, m7, ⟨m8, m8b⟩, m9, ⟨m10, m10b⟩, m11, m12, m13⟩ := id hM
  obtain ⟨hV1, ⟨hV2, hV2b⟩, hV3, ⟨hV4, hV4b⟩, hV5⟩ := id m1
  obtain ⟨hnx1, hnx2⟩ : r32 x.2.2.2.2.1 := by rw [← m7]; exact hz.1 234 52
  have m4a := m4.1
  have m4b := m4.2
  refine And.intro rfl ?_
  refine And.intro (zA_234 hS) (zrd (v := g) h3 ?_)
  refine And.intro (zA_234 hS) (zrd (v := (x.2.2.2.2.1)) m7 ?_)
  refine And.intro (zA_234 hS) (zrdR (v := some 238) (zR_234_6 hR) ?_)
  refine And.intro (zP_238 hS (by omega) (by omega)) (fun v19 e19 r19 => ?_)
  have f19 : v19 = 16 := (e19.trans ((congrArg (I 238) (by omega)).trans (hO.1.1.trans hk1)))
  refine And.intro (zA_234 hS) (zrd (v := (x.2.2.2.2.1)) m7 ?_)
  refine And.intro (zA_234 hS) ⟨_, (zWi (by omega)), ?_⟩
  refine And.intro r19 (And.intro (And.intro (fun h32 => False.elim (by omega)) (And.intro (fun h32 => False.elim (by omega)) (And.intro (fun h32 => False.elim (by omega)) (And.intro (fun h32 => False.elim (by omega)) (And.intro (fun h32 => False.elim (by omega)) (And.intro (fun h32 => False.elim (by omega)) (And.intro (fun h32 => False.elim (by omega)) (And.intro (fun h32 => False.elim (by omega)) (And.intro (fun h32 => ?_) (And.intro (fun h32 => False.elim (by omega)) (And.intro (fun h32 => False.elim (by omega)) (And.intro (fun h32 => False.elim (by omega)) (And.intro (fun h32 => False.elim (by omega)) True.intro))))))))))))) (fun h32 => False.elim (by omega)))
  refine And.intro (zA_234 hS) (zrdR (v := some 239) (zR_234_7 hR) ?_)
  refine And.intro (zP_239 hS (by omega) (by omega)) (fun v174 e174 r174 => ?_)
  have f174 : v174 = o.2.1 := (e174.trans ((zxcj (by omega) rfl).trans ((congrArg (I 239) (by omega)).trans hO.1.2.1)))
  refine And.intro (zA_234 hS) ⟨_, sn_G_sp0.up (by decide), ?_⟩
  refine ⟨g, lim, (mNx x (x.2.2.2.2.1 + 1)), (v174 : Int), rfl, hS, hR, h3, (by omega), (zMs_n hM ((show _ = (((x.2.2.2.2.1) + 1) : Int) from rfl).trans (by omega)) (fun c j h => (zxcj (by omega) rfl))), hli, hlm, ?_⟩
  intro I175o p175hM2 p175bfr
  refine And.intro (zRb rfl) (zbf rfl ?_)
  refine hQ _ _ p175hM2 (fun c j h0 h1 h2 h3 h4 h5 h6 h7 h8 h9 h10 h11 h12 h13 h14 h15 h16 h17 h18 h19 h20 h21 h22 h23 h24 h25 h26 h27 h28 h29 => ((p175bfr c j h14 h15).trans (zxcj h16 rfl))) (fun c j h0 h1 h2 h3 h4 h5 h6 => rfl))
def T_G_wn18 : ZT := fun args I L R S Q => ∃ (g : Nat) (lim : Nat) (x : MsT) (i : Nat) (kc : Nat) (o : OrT), args = [zvr 234] ∧ (zSh S) ∧ (zRs R) ∧ (I 234 3 = g) ∧ (g ≤ 1) ∧ (zMs g lim x I L) ∧ (x.2.2.2.2.1 = i) ∧ (zOr g kc i o I) ∧ (kc ≤ 1000) ∧ (i ≤ 599) ∧ (o.1 = 18) ∧ (lim ≤ 300 ∧ x.2.1 ≤ lim) ∧ (x.2.1 = lim) ∧ ∀ (I' : ZI) (L' : ZI), (zMs g lim (x.1, x.2.1, (1, 2), (mNx x (x.2.2.2.2.1 + 1)).2.2.2) I' L') → (∀ c j : Nat, ¬ (c = 234 ∧ j = 28) → ¬ (c = 234 ∧ j = 30) → ¬ (c = 234 ∧ j = 36) → ¬ (c = 234 ∧ j = 38) → ¬ (c = 234 ∧ j = 40) → ¬ (c = 234 ∧ j = 42) → ¬ (c = 234 ∧ j = 44) → ¬ (c = 234 ∧ j = 51) → ¬ (c = 234 ∧ j = 66) → ¬ (c = 234 ∧ j = 53) → ¬ (c = 234 ∧ j = 55) → ¬ (c = 234 ∧ j = 46) → ¬ (c = 234 ∧ j = 47) → ¬ (c = 234 ∧ j = 48) → ¬ (c = 234 ∧ j = 49) → ¬ (c = 234 ∧ j = 50) → ¬ (c = 234 ∧ j = 52) → ¬ (c = 234 ∧ j = 45) → ¬ c = 254 → ¬ c = 255 → ¬ c = 256 → ¬ c = 257 → ¬ c = 258 → ¬ c = 259 → ¬ c = 260 → ¬ c = 261 → ¬ c = 262 → ¬ c = 263 → ¬ c = 264 → ¬ c = 266 → I' c j = I c j) → (∀ c j : Nat, ¬ c = 251 → ¬ c = 252 → ¬ c = 253 → ¬ c = 265 → ¬ c = 267 → ¬ (c = 234 ∧ j = 65) → ¬ (c = 234 ∧ j = 35) → L' c j = L c j) → Q none I' L' R S
theorem sn_G_wn18 : ZSnd 5 12 55 T_G_wn18 := ZSnd.of (zT12_55 4) (by
  rintro args I L R S Q hz ⟨g, lim, x, i, kc, o, rfl, hS, hR, h3, hg, hM, hN, hO, hkc, hi6, hk1, hli, hlm, hQ⟩
  obtain ⟨m1, m2, m3, m4, m5, m6, m7, ⟨m8, m8b⟩, m9, ⟨m10, m10b⟩, m11, m12, m13⟩ := id hM
  obtain ⟨hV1, ⟨hV2, hV2b⟩, hV3, ⟨hV4, hV4b⟩, hV5⟩ := id m1
  obtain ⟨hnx1, hnx2⟩ : r32 x.2.2.2.2.1 := by rw [← m7]; exact hz.1 234 52
  have m4a := m4.1
  have m4b := m4.2
  refine And.intro rfl ?_
  refine And.intro (zA_234 hS) (zrd (v := g) h3 ?_)
  refine And.intro (zA_234 hS) (zrd (v := (x.2.2.2.2.1)) m7 ?_)
  refine And.intro (zA_234 hS) (zrdR (v := some 238) (zR_234_6 hR) ?_)
  refine And.intro (zP_238 hS (by omega) (by omega)) (fun v19 e19 r19 => ?_)
  have f19 : v19 = 18 := (e19.trans ((congrArg (I 238) (by omega)).trans (hO.1.1.trans hk1)))
  refine And.intro (zA_234 hS) (zrd (v := (x.2.2.2.2.1)) m7 ?_)
  refine And.intro (zA_234 hS) ⟨_, (zWi (by omega)), ?_⟩
  refine And.intro r19 (And.intro (And.intro (fun h32 => False.elim (by omega)) (And.intro (fun h32 => False.elim (by omega)) (And.intro (fun h32 => False.elim (by omega)) (And.intro (fun h32 => False.elim (by omega)) (And.intro (fun h32 => False.elim (by omega)) (And.intro (fun h32 => False.elim (by omega)) (And.intro (fun h32 => False.elim (by omega)) (And.intro (fun h32 => False.elim (by omega)) (And.intro (fun h32 => False.elim (by omega)) (And.intro (fun h32 => False.elim (by omega)) (And.intro (fun h32 => ?_) (And.intro (fun h32 => False.elim (by omega)) (And.intro (fun h32 => False.elim (by omega)) True.intro))))))))))))) (fun h32 => False.elim (by omega)))
  refine And.intro (zA_234 hS) (zrdR (v := some 239) (zR_234_7 hR) ?_)
  refine And.intro (zP_239 hS (by omega) (by omega)) (fun v174 e174 r174 => ?_)
  have f174 : v174 = o.2.1 := (e174.trans ((zxcj (by omega) rfl).trans ((congrArg (I 239) (by omega)).trans hO.1.2.1)))
  refine And.intro (zA_234 hS) ⟨_, sn_G_sp0.up (by decide), ?_⟩
  refine ⟨g, lim, (mNx x (x.2.2.2.2.1 + 1)), (v174 : Int), rfl, hS, hR, h3, (by omega), (zMs_n hM ((show _ = (((x.2.2.2.2.1) + 1) : Int) from rfl).trans (by omega)) (fun c j h => (zxcj (by omega) rfl))), hli, hlm, ?_⟩
  intro I175o p175hM2 p175bfr
  refine And.intro (zRb rfl) (zbf rfl ?_)
  refine hQ _ _ p175hM2 (fun c j h0 h1 h2 h3 h4 h5 h6 h7 h8 h9 h10 h11 h12 h13 h14 h15 h16 h17 h18 h19 h20 h21 h22 h23 h24 h25 h26 h27 h28 h29 => ((p175bfr c j h14 h15).trans (zxcj h16 rfl))) (fun c j h0 h1 h2 h3 h4 h5 h6 => rfl))
