/-! tzb -/
def T_G_wy1 : ZT := fun args I L R S Q => ∃ (g : Nat) (lim : Nat) (x : MsT) (i : Nat) (kc : Nat) (o : OrT) (u : Nat → Int), args = [zvr 234] ∧ (zSh S) ∧ (zRs R) ∧ (I 234 3 = g) ∧ (g ≤ 1) ∧ (zMs g lim x I L) ∧ (x.2.2.2.2.1 = i) ∧ (zOr g kc i o I) ∧ (kc ≤ 1000) ∧ (i ≤ 599) ∧ (o.1 = 1) ∧ (lim ≤ 300 ∧ x.2.1 ≤ lim) ∧ (x.2.1 < lim) ∧ (0 ≤ o.2.2.1 ∧ o.2.2.1 < 26) ∧ ∀ (I' : ZI) (L' : ZI), (zMs g lim (mAc i o u (x.1, x.2.1 + 1, (mNx x (x.2.2.2.2.1 + 1)).2.2)) I' L') → (∀ c j : Nat, ¬ (c = 234 ∧ j = 28) → ¬ (c = 234 ∧ j = 30) → ¬ (c = 234 ∧ j = 36) → ¬ (c = 234 ∧ j = 38) → ¬ (c = 234 ∧ j = 40) → ¬ (c = 234 ∧ j = 42) → ¬ (c = 234 ∧ j = 44) → ¬ (c = 234 ∧ j = 51) → ¬ (c = 234 ∧ j = 66) → ¬ (c = 234 ∧ j = 53) → ¬ (c = 234 ∧ j = 55) → ¬ (c = 234 ∧ j = 46) → ¬ (c = 234 ∧ j = 47) → ¬ (c = 234 ∧ j = 48) → ¬ (c = 234 ∧ j = 49) → ¬ (c = 234 ∧ j = 50) → ¬ (c = 234 ∧ j = 52) → ¬ (c = 234 ∧ j = 45) → ¬ c = 254 → ¬ c = 255 → ¬ c = 256 → ¬ c = 257 → ¬ c = 258 → ¬ c = 259 → ¬ c = 260 → ¬ c = 261 → ¬ c = 262 → ¬ c = 263 → ¬ c = 264 → ¬ c = 266 → I' c j = I c j) → (∀ c j : Nat, ¬ c = 251 → ¬ c = 252 → ¬ c = 253 → ¬ c = 265 → ¬ c = 267 → ¬ (c = 234 ∧ j = 65) → ¬ (c = 234 ∧ j = 35) → L' c j = L c j) → Q none I' L' R S
theorem sn_G_wy1 : ZSnd 5 12 55 T_G_wy1 := ZSnd.of (zT12_55 4) (by
  rintro args I L R S Q hz ⟨g, lim, x, i, kc, o, u, rfl, hS, hR, h3, hg, hM, hN, hO, hkc, hi6, hk1, hli, hlm, hgv, hQ⟩
  obtain ⟨m1, m2, m3, m4, m5, m6, m7, ⟨m8, m8b⟩, m9, ⟨m10, m10b⟩, m11, m12, m13⟩ := id hM
  obtain ⟨hV1, ⟨hV2, hV2b⟩, hV3, ⟨hV4, hV4b⟩, hV5⟩ := id m1
  obtain ⟨hnx1, hnx2⟩ : r32 x.2.2.2.2.1 := by rw [← m7]; exact hz.1 234 52
  have m4a := m4.1
  have m4b := m4.2
  refine And.intro rfl ?_
  refine And.intro (zA_234 hS) (zrd (v := g) h3 ?_)
  refine And.intro (zA_234 hS) (zrd (v := (x.2.2.2.2.1)) m7 ?_)
  refine And.intro (zA_234 hS) (zrdR (v := some 238) (zR_234_6 hR) ?_)
  refine And.intro (zP_238 hS (by omega) (by omega)) (fun v19 e19 r19 => ?_)
  have f19 : v19 = 1 := (e19.trans ((congrArg (I 238) (by omega)).trans (hO.1.1.trans hk1)))
  refine And.intro (zA_234 hS) (zrd (v := (x.2.2.2.2.1)) m7 ?_)
  refine And.intro (zA_234 hS) ⟨_, (zWi (by omega)), ?_⟩
  refine And.intro r19 (And.intro (And.intro (fun h32 => False.elim (by omega)) (And.intro (fun h32 => False.elim (by omega)) (And.intro (fun h32 => False.elim (by omega)) (And.intro (fun h32 => False.elim (by omega)) (And.intro (fun h32 => False.elim (by omega)) (And.intro (fun h32 => False.elim (by omega)) (And.intro (fun h32 => False.elim (by omega)) (And.intro (fun h32 => False.elim (by omega)) (And.intro (fun h32 => False.elim (by omega)) (And.intro (fun h32 => False.elim (by omega)) (And.intro (fun h32 => False.elim (by omega)) (And.intro (fun h32 => False.elim (by omega)) (And.intro (fun h32 => False.elim (by omega)) True.intro))))))))))))) (fun h32 => ?_))
  refine And.intro (zA_234 hS) (zrdR (v := some 239) (zR_234_7 hR) ?_)
  refine And.intro (zP_239 hS (by omega) (by omega)) (fun v174 e174 r174 => ?_)
  have f174 : v174 = o.2.1 := (e174.trans ((zxcj (by omega) rfl).trans ((congrArg (I 239) (by omega)).trans hO.1.2.1)))
  refine And.intro (zA_234 hS) ⟨_, sn_G_sp1.up (by decide), ?_⟩
  refine ⟨g, lim, (mNx x (x.2.2.2.2.1 + 1)), (v174 : Int), rfl, hS, hR, h3, (by omega), (zMs_n hM ((show _ = (((x.2.2.2.2.1) + 1) : Int) from rfl).trans (by omega)) (fun c j h => (zxcj (by omega) rfl))), hli, hlm, r174, ?_⟩
  intro I175o L175o p175hM2 p175bh51 p175bbfr p175bbbfrL
  refine And.intro (zRb rfl) (zbt rfl ?_)
  refine And.intro r19 (And.intro (And.intro (fun h183 => ?_) (And.intro (fun h183 => False.elim (by omega)) (And.intro (fun h183 => False.elim (by omega)) (And.intro (fun h183 => False.elim (by omega)) (And.intro (fun h183 => False.elim (by omega)) (And.intro (fun h183 => False.elim (by omega)) (And.intro (fun h183 => False.elim (by omega)) (And.intro (fun h183 => False.elim (by omega)) (And.intro (fun h183 => False.elim (by omega)) (And.intro (fun h183 => False.elim (by omega)) (And.intro (fun h183 => False.elim (by omega)) (And.intro (fun h183 => False.elim (by omega)) (And.intro (fun h183 => False.elim (by omega)) (And.intro (fun h183 => False.elim (by omega)) (And.intro (fun h183 => False.elim (by omega)) (And.intro (fun h183 => False.elim (by omega)) (And.intro (fun h183 => False.elim (by omega)) (And.intro (fun h183 => False.elim (by omega)) True.intro)))))))))))))))))) (fun h183 => False.elim (by omega)))
  refine And.intro (zA_234 hS) ⟨_, sn_G_st1.up (by decide), ?_⟩
  refine ⟨g, lim, (x.1, x.2.1 + 1, (mNx x (x.2.2.2.2.1 + 1)).2.2), i, kc, o, (600 * g + i), (show [zvr 234, zvi v19, zvi (600 * (g : Int) + x.2.2.2.2.1)] = _ from by rw [f19, hN]), hS, hR, ((p175bbfr 234 3 (by omega)).trans h3), (by omega), p175hM2, (zOr_fr hO (Nat.le_refl _) (fun c h1 h2 => ((p175bbfr _ _ (by omega)).trans (zxcj (by omega) rfl))) (fun c j h1 h2 => ((p175bbfr c j (by omega)).trans (zxcj (by omega) rfl)))), (p175bh51.trans f174), (by omega), (by omega), (by omega), hk1, hgv, ?_⟩
  intro I271o L271o p271hM2 p271bfr p271bbfrL
  refine hQ _ _ (zMs_x (mAc_1 hk1).symm p271hM2) (fun c j h0 h1 h2 h3 h4 h5 h6 h7 h8 h9 h10 h11 h12 h13 h14 h15 h16 h17 h18 h19 h20 h21 h22 h23 h24 h25 h26 h27 h28 h29 => ((p271bfr c j h0 h1 h6 h8 h9 h10 h11 h12 h13 h14 h15 h16 h23 h26 h27 h28).trans ((p175bbfr c j h7).trans (zxcj h16 rfl)))) (fun c j h0 h1 h2 h3 h4 h5 h6 => ((p271bbfrL c j h0 h1 h2 h4 h5).trans ((p175bbbfrL c j h6).trans rfl))))
def T_G_wy2 : ZT := fun args I L R S Q => ∃ (g : Nat) (lim : Nat) (x : MsT) (i : Nat) (kc : Nat) (o : OrT) (u : Nat → Int), args = [zvr 234] ∧ (zSh S) ∧ (zRs R) ∧ (I 234 3 = g) ∧ (g ≤ 1) ∧ (zMs g lim x I L) ∧ (x.2.2.2.2.1 = i) ∧ (zOr g kc i o I) ∧ (kc ≤ 1000) ∧ (i ≤ 599) ∧ (o.1 = 2) ∧ (lim ≤ 300 ∧ x.2.1 ≤ lim) ∧ (x.2.1 < lim) ∧ (0 ≤ o.2.2.1 ∧ o.2.2.1 ≤ 5) ∧ ∀ (I' : ZI) (L' : ZI), (zMs g lim (mAc i o u (x.1, x.2.1 + 1, (mNx x (x.2.2.2.2.1 + 1)).2.2)) I' L') → (∀ c j : Nat, ¬ (c = 234 ∧ j = 28) → ¬ (c = 234 ∧ j = 30) → ¬ (c = 234 ∧ j = 36) → ¬ (c = 234 ∧ j = 38) → ¬ (c = 234 ∧ j = 40) → ¬ (c = 234 ∧ j = 42) → ¬ (c = 234 ∧ j = 44) → ¬ (c = 234 ∧ j = 51) → ¬ (c = 234 ∧ j = 66) → ¬ (c = 234 ∧ j = 53) → ¬ (c = 234 ∧ j = 55) → ¬ (c = 234 ∧ j = 46) → ¬ (c = 234 ∧ j = 47) → ¬ (c = 234 ∧ j = 48) → ¬ (c = 234 ∧ j = 49) → ¬ (c = 234 ∧ j = 50) → ¬ (c = 234 ∧ j = 52) → ¬ (c = 234 ∧ j = 45) → ¬ c = 254 → ¬ c = 255 → ¬ c = 256 → ¬ c = 257 → ¬ c = 258 → ¬ c = 259 → ¬ c = 260 → ¬ c = 261 → ¬ c = 262 → ¬ c = 263 → ¬ c = 264 → ¬ c = 266 → I' c j = I c j) → (∀ c j : Nat, ¬ c = 251 → ¬ c = 252 → ¬ c = 253 → ¬ c = 265 → ¬ c = 267 → ¬ (c = 234 ∧ j = 65) → ¬ (c = 234 ∧ j = 35) → L' c j = L c j) → Q none I' L' R S
theorem sn_G_wy2 : ZSnd 5 12 55 T_G_wy2 := ZSnd.of (zT12_55 4) (by
  rintro args I L R S Q hz ⟨g, lim, x, i, kc, o, u, rfl, hS, hR, h3, hg, hM, hN, hO, hkc, hi6, hk1, hli, hlm, hgv, hQ⟩
  obtain ⟨m1, m2, m3, m4, m5, m6, m7, ⟨m8, m8b⟩, m9, ⟨m10, m10b⟩, m11, m12, m13⟩ := id hM
  obtain ⟨hV1, ⟨hV2, hV2b⟩, hV3, ⟨hV4, hV4b⟩, hV5⟩ := id m1
  obtain ⟨hnx1, hnx2⟩ : r32 x.2.2.2.2.1 := by rw [← m7]; exact hz.1 234 52
  have m4a := m4.1
  have m4b := m4.2
  refine And.intro rfl ?_
  refine And.intro (zA_234 hS) (zrd (v := g) h3 ?_)
  refine And.intro (zA_234 hS) (zrd (v := (x.2.2.2.2.1)) m7 ?_)
  refine And.intro (zA_234 hS) (zrdR (v := some 238) (zR_234_6 hR) ?_)
  refine And.intro (zP_238 hS (by omega) (by omega)) (fun v19 e19 r19 => ?_)
  have f19 : v19 = 2 := (e19.trans ((congrArg (I 238) (by omega)).trans (hO.1.1.trans hk1)))
  refine And.intro (zA_234 hS) (zrd (v := (x.2.2.2.2.1)) m7 ?_)
  refine And.intro (zA_234 hS) ⟨_, (zWi (by omega)), ?_⟩
  refine And.intro r19 (And.intro (And.intro (fun h32 => False.elim (by omega)) (And.intro (fun h32 => False.elim (by omega)) (And.intro (fun h32 => False.elim (by omega)) (And.intro (fun h32 => False.elim (by omega)) (And.intro (fun h32 => False.elim (by omega)) (And.intro (fun h32 => False.elim (by omega)) (And.intro (fun h32 => False.elim (by omega)) (And.intro (fun h32 => False.elim (by omega)) (And.intro (fun h32 => False.elim (by omega)) (And.intro (fun h32 => False.elim (by omega)) (And.intro (fun h32 => False.elim (by omega)) (And.intro (fun h32 => False.elim (by omega)) (And.intro (fun h32 => False.elim (by omega)) True.intro))))))))))))) (fun h32 => ?_))
  refine And.intro (zA_234 hS) (zrdR (v := some 239) (zR_234_7 hR) ?_)
  refine And.intro (zP_239 hS (by omega) (by omega)) (fun v174 e174 r174 => ?_)
  have f174 : v174 = o.2.1 := (e174.trans ((zxcj (by omega) rfl).trans ((congrArg (I 239) (by omega)).trans hO.1.2.1)))
  refine And.intro (zA_234 hS) ⟨_, sn_G_sp1.up (by decide), ?_⟩
  refine ⟨g, lim, (mNx x (x.2.2.2.2.1 + 1)), (v174 : Int), rfl, hS, hR, h3, (by omega), (zMs_n hM ((show _ = (((x.2.2.2.2.1) + 1) : Int) from rfl).trans (by omega)) (fun c j h => (zxcj (by omega) rfl))), hli, hlm, r174, ?_⟩
  intro I175o L175o p175hM2 p175bh51 p175bbfr p175bbbfrL
  refine And.intro (zRb rfl) (zbt rfl ?_)
  refine And.intro r19 (And.intro (And.intro (fun h183 => False.elim (by omega)) (And.intro (fun h183 => ?_) (And.intro (fun h183 => False.elim (by omega)) (And.intro (fun h183 => False.elim (by omega)) (And.intro (fun h183 => False.elim (by omega)) (And.intro (fun h183 => False.elim (by omega)) (And.intro (fun h183 => False.elim (by omega)) (And.intro (fun h183 => False.elim (by omega)) (And.intro (fun h183 => False.elim (by omega)) (And.intro (fun h183 => False.elim (by omega)) (And.intro (fun h183 => False.elim (by omega)) (And.intro (fun h183 => False.elim (by omega)) (And.intro (fun h183 => False.elim (by omega)) (And.intro (fun h183 => False.elim (by omega)) (And.intro (fun h183 => False.elim (by omega)) (And.intro (fun h183 => False.elim (by omega)) (And.intro (fun h183 => False.elim (by omega)) (And.intro (fun h183 => False.elim (by omega)) True.intro)))))))))))))))))) (fun h183 => False.elim (by omega)))
  refine And.intro (zA_234 hS) ⟨_, sn_G_st2.up (by decide), ?_⟩
  refine ⟨g, lim, (x.1, x.2.1 + 1, (mNx x (x.2.2.2.2.1 + 1)).2.2), i, kc, o, (600 * g + i), (show [zvr 234, zvi v19, zvi (600 * (g : Int) + x.2.2.2.2.1)] = _ from by rw [f19, hN]), hS, hR, ((p175bbfr 234 3 (by omega)).trans h3), (by omega), p175hM2, (zOr_fr hO (Nat.le_refl _) (fun c h1 h2 => ((p175bbfr _ _ (by omega)).trans (zxcj (by omega) rfl))) (fun c j h1 h2 => ((p175bbfr c j (by omega)).trans (zxcj (by omega) rfl)))), (p175bh51.trans f174), (by omega), (by omega), (by omega), hk1, hgv, ?_⟩
  intro I271o L271o p271hM2 p271bfr p271bbfrL
  refine hQ _ _ (zMs_x (mAc_2 hk1).symm p271hM2) (fun c j h0 h1 h2 h3 h4 h5 h6 h7 h8 h9 h10 h11 h12 h13 h14 h15 h16 h17 h18 h19 h20 h21 h22 h23 h24 h25 h26 h27 h28 h29 => ((p271bfr c j h0 h1 h6 h8 h9 h10 h11 h12 h13 h14 h15 h16 h23 h26 h27 h28).trans ((p175bbfr c j h7).trans (zxcj h16 rfl)))) (fun c j h0 h1 h2 h3 h4 h5 h6 => ((p271bbfrL c j h0 h1 h2 h4 h5).trans ((p175bbbfrL c j h6).trans rfl))))
def T_G_wy3 : ZT := fun args I L R S Q => ∃ (g : Nat) (lim : Nat) (x : MsT) (i : Nat) (kc : Nat) (o : OrT) (u : Nat → Int), args = [zvr 234] ∧ (zSh S) ∧ (zRs R) ∧ (I 234 3 = g) ∧ (g ≤ 1) ∧ (zMs g lim x I L) ∧ (x.2.2.2.2.1 = i) ∧ (zOr g kc i o I) ∧ (kc ≤ 1000) ∧ (i ≤ 599) ∧ (o.1 = 3) ∧ (lim ≤ 300 ∧ x.2.1 ≤ lim) ∧ (x.2.1 < lim) ∧ ∀ (I' : ZI) (L' : ZI), (zMs g lim (mAc i o u (x.1, x.2.1 + 1, (mNx x (x.2.2.2.2.1 + 1)).2.2)) I' L') → (∀ c j : Nat, ¬ (c = 234 ∧ j = 28) → ¬ (c = 234 ∧ j = 30) → ¬ (c = 234 ∧ j = 36) → ¬ (c = 234 ∧ j = 38) → ¬ (c = 234 ∧ j = 40) → ¬ (c = 234 ∧ j = 42) → ¬ (c = 234 ∧ j = 44) → ¬ (c = 234 ∧ j = 51) → ¬ (c = 234 ∧ j = 66) → ¬ (c = 234 ∧ j = 53) → ¬ (c = 234 ∧ j = 55) → ¬ (c = 234 ∧ j = 46) → ¬ (c = 234 ∧ j = 47) → ¬ (c = 234 ∧ j = 48) → ¬ (c = 234 ∧ j = 49) → ¬ (c = 234 ∧ j = 50) → ¬ (c = 234 ∧ j = 52) → ¬ (c = 234 ∧ j = 45) → ¬ c = 254 → ¬ c = 255 → ¬ c = 256 → ¬ c = 257 → ¬ c = 258 → ¬ c = 259 → ¬ c = 260 → ¬ c = 261 → ¬ c = 262 → ¬ c = 263 → ¬ c = 264 → ¬ c = 266 → I' c j = I c j) → (∀ c j : Nat, ¬ c = 251 → ¬ c = 252 → ¬ c = 253 → ¬ c = 265 → ¬ c = 267 → ¬ (c = 234 ∧ j = 65) → ¬ (c = 234 ∧ j = 35) → L' c j = L c j) → Q none I' L' R S
theorem sn_G_wy3 : ZSnd 5 12 55 T_G_wy3 := ZSnd.of (zT12_55 4) (by
  rintro args I L R S Q hz ⟨g, lim, x, i, kc, o, u, rfl, hS, hR, h3, hg, hM, hN, hO, hkc, hi6, hk1, hli, hlm, hQ⟩
  obtain ⟨m1, m2, m3, m4, m5, m6, m7, ⟨m8, m8b⟩, m9, ⟨m10, m10b⟩, m11, m12, m13⟩ := id hM
  obtain ⟨hV1, ⟨hV2, hV2b⟩, hV3, ⟨hV4, hV4b⟩, hV5⟩ := id m1
  obtain ⟨hnx1, hnx2⟩ : r32 x.2.2.2.2.1 := by rw [← m7]; exact hz.1 234 52
  have m4a := m4.1
  have m4b := m4.2
  refine And.intro rfl ?_
  refine And.intro (zA_234 hS) (zrd (v := g) h3 ?_)
  refine And.intro (zA_234 hS) (zrd (v := (x.2.2.2.2.1)) m7 ?_)
  refine And.intro (zA_234 hS) (zrdR (v := some 238) (zR_234_6 hR) ?_)
  refine And.intro (zP_238 hS (by omega) (by omega)) (fun v19 e19 r19 => ?_)
  have f19 : v19 = 3 := (e19.trans ((congrArg (I 238) (by omega)).trans (hO.1.1.trans hk1)))
  refine And.intro (zA_234 hS) (zrd (v := (x.2.2.2.2.1)) m7 ?_)
  refine And.intro (zA_234 hS) ⟨_, (zWi (by omega)), ?_⟩
  refine And.intro r19 (And.intro (And.intro (fun h32 => False.elim (by omega)) (And.intro (fun h32 => False.elim (by omega)) (And.intro (fun h32 => False.elim (by omega)) (And.intro (fun h32 => False.elim (by omega)) (And.intro (fun h32 => False.elim (by omega)) (And.intro (fun h32 => False.elim (by omega)) (And.intro (fun h32 => False.elim (by omega)) (And.intro (fun h32 => False.elim (by omega)) (And.intro (fun h32 => False.elim (by omega)) (And.intro (fun h32 => False.elim (by omega)) (And.intro (fun h32 => False.elim (by omega)) (And.intro (fun h32 => False.elim (by omega)) (And.intro (fun h32 => False.elim (by omega)) True.intro))))))))))))) (fun h32 => ?_))
  refine And.intro (zA_234 hS) (zrdR (v := some 239) (zR_234_7 hR) ?_)
  refine And.intro (zP_239 hS (by omega) (by omega)) (fun v174 e174 r174 => ?_)
  have f174 : v174 = o.2.1 := (e174.trans ((zxcj (by omega) rfl).trans ((congrArg (I 239) (by omega)).trans hO.1.2.1)))
  refine And.intro (zA_234 hS) ⟨_, sn_G_sp1.up (by decide), ?_⟩
  refine ⟨g, lim, (mNx x (x.2.2.2.2.1 + 1)), (v174 : Int), rfl, hS, hR, h3, (by omega), (zMs_n hM ((show _ = (((x.2.2.2.2.1) + 1) : Int) from rfl).trans (by omega)) (fun c j h => (zxcj (by omega) rfl))), hli, hlm, r174, ?_⟩
  intro I175o L175o p175hM2 p175bh51 p175bbfr p175bbbfrL
  refine And.intro (zRb rfl) (zbt rfl ?_)
  refine And.intro r19 (And.intro (And.intro (fun h183 => False.elim (by omega)) (And.intro (fun h183 => False.elim (by omega)) (And.intro (fun h183 => ?_) (And.intro (fun h183 => False.elim (by omega)) (And.intro (fun h183 => False.elim (by omega)) (And.intro (fun h183 => False.elim (by omega)) (And.intro (fun h183 => False.elim (by omega)) (And.intro (fun h183 => False.elim (by omega)) (And.intro (fun h183 => False.elim (by omega)) (And.intro (fun h183 => False.elim (by omega)) (And.intro (fun h183 => False.elim (by omega)) (And.intro (fun h183 => False.elim (by omega)) (And.intro (fun h183 => False.elim (by omega)) (And.intro (fun h183 => False.elim (by omega)) (And.intro (fun h183 => False.elim (by omega)) (And.intro (fun h183 => False.elim (by omega)) (And.intro (fun h183 => False.elim (by omega)) (And.intro (fun h183 => False.elim (by omega)) True.intro)))))))))))))))))) (fun h183 => False.elim (by omega)))
  refine And.intro (zA_234 hS) ⟨_, sn_G_st3.up (by decide), ?_⟩
  refine ⟨g, lim, (x.1, x.2.1 + 1, (mNx x (x.2.2.2.2.1 + 1)).2.2), i, kc, o, (600 * g + i), (show [zvr 234, zvi v19, zvi (600 * (g : Int) + x.2.2.2.2.1)] = _ from by rw [f19, hN]), hS, hR, ((p175bbfr 234 3 (by omega)).trans h3), (by omega), p175hM2, (zOr_fr hO (Nat.le_refl _) (fun c h1 h2 => ((p175bbfr _ _ (by omega)).trans (zxcj (by omega) rfl))) (fun c j h1 h2 => ((p175bbfr c j (by omega)).trans (zxcj (by omega) rfl)))), (p175bh51.trans f174), (by omega), (by omega), (by omega), hk1, ?_⟩
  intro I271o L271o p271hM2 p271bfr p271bbfrL
  refine hQ _ _ (zMs_x (mAc_3 hk1).symm p271hM2) (fun c j h0 h1 h2 h3 h4 h5 h6 h7 h8 h9 h10 h11 h12 h13 h14 h15 h16 h17 h18 h19 h20 h21 h22 h23 h24 h25 h26 h27 h28 h29 => ((p271bfr c j h0 h1 h6 h8 h9 h10 h11 h12 h13 h14 h15 h16 h23 h26 h27 h28).trans ((p175bbfr c j h7).trans (zxcj h16 rfl)))) (fun c j h0 h1 h2 h3 h4 h5 h6 => ((p271bbfrL c j h0 h1 h2 h4 h5).trans ((p175bbbfrL c j h6).trans rfl))))
def T_G_wy4 : ZT := fun args I L R S Q => ∃ (g : Nat) (lim : Nat) (x : MsT) (i : Nat) (kc : Nat) (o : OrT) (u : Nat → Int), args = [zvr 234] ∧ (zSh S) ∧ (zRs R) ∧ (I 234 3 = g) ∧ (g ≤ 1) ∧ (zMs g lim x I L) ∧ (x.2.2.2.2.1 = i) ∧ (zOr g kc i o I) ∧ (kc ≤ 1000) ∧ (i ≤ 599) ∧ (o.1 = 4) ∧ (lim ≤ 300 ∧ x.2.1 ≤ lim) ∧ (x.2.1 < lim) ∧ ∀ (I' : ZI) (L' : ZI), (zMs g lim (mAc i o u (x.1, x.2.1 + 1, (mNx x (x.2.2.2.2.1 + 1)).2.2)) I' L') → (∀ c j : Nat, ¬ (c = 234 ∧ j = 28) → ¬ (c = 234 ∧ j = 30) → ¬ (c = 234 ∧ j = 36) → ¬ (c = 234 ∧ j = 38) → ¬ (c = 234 ∧ j = 40) → ¬ (c = 234 ∧ j = 42) → ¬ (c = 234 ∧ j = 44) → ¬ (c = 234 ∧ j = 51) → ¬ (c = 234 ∧ j = 66) → ¬ (c = 234 ∧ j = 53) → ¬ (c = 234 ∧ j = 55) → ¬ (c = 234 ∧ j = 46) → ¬ (c = 234 ∧ j = 47) → ¬ (c = 234 ∧ j = 48) → ¬ (c = 234 ∧ j = 49) → ¬ (c = 234 ∧ j = 50) → ¬ (c = 234 ∧ j = 52) → ¬ (c = 234 ∧ j = 45) → ¬ c = 254 → ¬ c = 255 → ¬ c = 256 → ¬ c = 257 → ¬ c = 258 → ¬ c = 259 → ¬ c = 260 → ¬ c = 261 → ¬ c = 262 → ¬ c = 263 → ¬ c = 264 → ¬ c = 266 → I' c j = I c j) → (∀ c j : Nat, ¬ c = 251 → ¬ c = 252 → ¬ c = 253 → ¬ c = 265 → ¬ c = 267 → ¬ (c = 234 ∧ j = 65) → ¬ (c = 234 ∧ j = 35) → L' c j = L c j) → Q none I' L' R S
theorem sn_G_wy4 : ZSnd 5 12 55 T_G_wy4 := ZSnd.of (zT12_55 4) (by
  rintro args I L R S Q hz ⟨g, lim, x, i, kc, o, u, rfl, hS, hR, h3, hg, hM, hN, hO, hkc, hi6, hk1, hli, hlm, hQ⟩
  obtain ⟨m1, m2, m3, m4, m5, m6, m7, ⟨m8, m8b⟩, m9, ⟨m10, m10b⟩, m11, m12, m13⟩ := id hM
  obtain ⟨hV1, ⟨hV2, hV2b⟩, hV3, ⟨hV4, hV4b⟩, hV5⟩ := id m1
  obtain ⟨hnx1, hnx2⟩ : r32 x.2.2.2.2.1 := by rw [← m7]; exact hz.1 234 52
  have m4a := m4.1
  have m4b := m4.2
  refine And.intro rfl ?_
  refine And.intro (zA_234 hS) (zrd (v := g) h3 ?_)
  refine And.intro (zA_234 hS) (zrd (v := (x.2.2.2.2.1)) m7 ?_)
  refine And.intro (zA_234 hS) (zrdR (v := some 238) (zR_234_6 hR) ?_)
  refine And.intro (zP_238 hS (by omega) (by omega)) (fun v19 e19 r19 => ?_)
  have f19 : v19 = 4 := (e19.trans ((congrArg (I 238) (by omega)).trans (hO.1.1.trans hk1)))
  refine And.intro (zA_234 hS) (zrd (v := (x.2.2.2.2.1)) m7 ?_)
  refine And.intro (zA_234 hS) ⟨_, (zWi (by omega)), ?_⟩
  refine And.intro r19 (And.intro (And.intro (fun h32 => False.elim (by omega)) (And.intro (fun h32 => False.elim (by omega)) (And.intro (fun h32 => False.elim (by omega)) (And.intro (fun h32 => False.elim (by omega)) (And.intro (fun h32 => False.elim (by omega)) (And.intro (fun h32 => False.elim (by omega)) (And.intro (fun h32 => False.elim (by omega)) (And.intro (fun h32 => False.elim (by omega)) (And.intro (fun h32 => False.elim (by omega)) (And.intro (fun h32 => False.elim (by omega)) (And.intro (fun h32 => False.elim (by omega)) (And.intro (fun h32 => False.elim (by omega)) (And.intro (fun h32 => False.elim (by omega)) True.intro))))))))))))) (fun h32 => ?_))
  refine And.intro (zA_234 hS) (zrdR (v := some 239) (zR_234_7 hR) ?_)
  refine And.intro (zP_239 hS (by omega) (by omega)) (fun v174 e174 r174 => ?_)
  have f174 : v174 = o.2.1 := (e174.trans ((zxcj (by omega) rfl).trans ((congrArg (I 239) (by omega)).trans hO.1.2.1)))
  refine And.intro (zA_234 hS) ⟨_, sn_G_sp1.up (by decide), ?_⟩
  refine ⟨g, lim, (mNx x (x.2.2.2.2.1 + 1)), (v174 : Int), rfl, hS, hR, h3, (by omega), (zMs_n hM ((show _ = (((x.2.2.2.2.1) + 1) : Int) from rfl).trans (by omega)) (fun c j h => (zxcj (by omega) rfl))), hli, hlm, r174, ?_⟩
  intro I175o L175o p175hM2 p175bh51 p175bbfr p175bbbfrL
  refine And.intro (zRb rfl) (zbt rfl ?_)
  refine And.intro r19 (And.intro (And.intro (fun h183 => False.elim (by omega)) (And.intro (fun h183 => False.elim (by omega)) (And.intro (fun h183 => False.elim (by omega)) (And.intro (fun h183 => ?_) (And.intro (fun h183 => False.elim (by omega)) (And.intro (fun h183 => False.elim (by omega)) (And.intro (fun h183 => False.elim (by omega)) (And.intro (fun h183 => False.elim (by omega)) (And.intro (fun h183 => False.elim (by omega)) (And.intro (fun h183 => False.elim (by omega)) (And.intro (fun h183 => False.elim (by omega)) (And.intro (fun h183 => False.elim (by omega)) (And.intro (fun h183 => False.elim (by omega)) (And.intro (fun h183 => False.elim (by omega)) (And.intro (fun h183 => False.elim (by omega)) (And.intro (fun h183 => False.elim (by omega)) (And.intro (fun h183 => False.elim (by omega)) (And.intro (fun h183 => False.elim (by omega)) True.intro)))))))))))))))))) (fun h183 => False.elim (by omega)))
  refine And.intro (zA_234 hS) ⟨_, sn_G_ac4.up (by decide), ?_⟩
  refine ⟨g, lim, (x.1, x.2.1 + 1, (mNx x (x.2.2.2.2.1 + 1)).2.2), i, kc, o, (600 * g + i), (show [zvr 234, zvi v19, zvi (600 * (g : Int) + x.2.2.2.2.1)] = _ from by rw [f19, hN]), hS, hR, ((p175bbfr 234 3 (by omega)).trans h3), (by omega), p175hM2, (zOr_fr hO (Nat.le_refl _) (fun c h1 h2 => ((p175bbfr _ _ (by omega)).trans (zxcj (by omega) rfl))) (fun c j h1 h2 => ((p175bbfr c j (by omega)).trans (zxcj (by omega) rfl)))), (p175bh51.trans f174), (by omega), (by omega), (by omega), hk1, ?_⟩
  intro I323o L323o p323hM2 p323bfr p323bbfrL
  refine hQ _ _ (zMs_x (mAw_4 hk1).symm p323hM2) (fun c j h0 h1 h2 h3 h4 h5 h6 h7 h8 h9 h10 h11 h12 h13 h14 h15 h16 h17 h18 h19 h20 h21 h22 h23 h24 h25 h26 h27 h28 h29 => ((p323bfr c j h0 h1 h6 h8 h9 h10 h11 h12 h13 h14 h15 h16 h23 h26 h27 h28 h2 h18).trans ((p175bbfr c j h7).trans (zxcj h16 rfl)))) (fun c j h0 h1 h2 h3 h4 h5 h6 => ((p323bbfrL c j h0 h1 h2 h4 h5).trans ((p175bbbfrL c j h6).trans rfl))))
def T_G_wy5 : ZT := fun args I L R S Q => ∃ (g : Nat) (lim : Nat) (x : MsT) (i : Nat) (kc : Nat) (o : OrT) (u : Nat → Int), args = [zvr 234] ∧ (zSh S) ∧ (zRs R) ∧ (I 234 3 = g) ∧ (g ≤ 1) ∧ (zMs g lim x I L) ∧ (x.2.2.2.2.1 = i) ∧ (zOr g kc i o I) ∧ (kc ≤ 1000) ∧ (i ≤ 599) ∧ (o.1 = 5) ∧ (lim ≤ 300 ∧ x.2.1 ≤ lim) ∧ (x.2.1 < lim) ∧ ∀ (I' : ZI) (L' : ZI), (zMs g lim (mAc i o u (x.1, x.2.1 + 1, (mNx x (x.2.2.2.2.1 + 1)).2.2)) I' L') → (∀ c j : Nat, ¬ (c = 234 ∧ j = 28) → ¬ (c = 234 ∧ j = 30) → ¬ (c = 234 ∧ j = 36) → ¬ (c = 234 ∧ j = 38) → ¬ (c = 234 ∧ j = 40) → ¬ (c = 234 ∧ j = 42) → ¬ (c = 234 ∧ j = 44) → ¬ (c = 234 ∧ j = 51) → ¬ (c = 234 ∧ j = 66) → ¬ (c = 234 ∧ j = 53) → ¬ (c = 234 ∧ j = 55) → ¬ (c = 234 ∧ j = 46) → ¬ (c = 234 ∧ j = 47) → ¬ (c = 234 ∧ j = 48) → ¬ (c = 234 ∧ j = 49) → ¬ (c = 234 ∧ j = 50) → ¬ (c = 234 ∧ j = 52) → ¬ (c = 234 ∧ j = 45) → ¬ c = 254 → ¬ c = 255 → ¬ c = 256 → ¬ c = 257 → ¬ c = 258 → ¬ c = 259 → ¬ c = 260 → ¬ c = 261 → ¬ c = 262 → ¬ c = 263 → ¬ c = 264 → ¬ c = 266 → I' c j = I c j) → (∀ c j : Nat, ¬ c = 251 → ¬ c = 252 → ¬ c = 253 → ¬ c = 265 → ¬ c = 267 → ¬ (c = 234 ∧ j = 65) → ¬ (c = 234 ∧ j = 35) → L' c j = L c j) → Q none I' L' R S
theorem sn_G_wy5 : ZSnd 5 12 55 T_G_wy5 := ZSnd.of (zT12_55 4) (by
  rintro args I L R S Q hz ⟨g, lim, x, i, kc, o, u, rfl, hS, hR, h3, hg, hM, hN, hO, hkc, hi6, hk1, hli, hlm, hQ⟩
  obtain ⟨m1, m2, m3, m4, m5, m6, m7, ⟨m8, m8b⟩, m9, ⟨m10, m10b⟩, m11, m12, m13⟩ := id hM
  obtain ⟨hV1, ⟨hV2, hV2b⟩, hV3, ⟨hV4, hV4b⟩, hV5⟩ := id m1
  obtain ⟨hnx1, hnx2⟩ : r32 x.2.2.2.2.1 := by rw [← m7]; exact hz.1 234 52
  have m4a := m4.1
  have m4b := m4.2
  refine And.intro rfl ?_
  refine And.intro (zA_234 hS) (zrd (v := g) h3 ?_)
  refine And.intro (zA_234 hS) (zrd (v := (x.2.2.2.2.1)) m7 ?_)
  refine And.intro (zA_234 hS) (zrdR (v := some 238) (zR_234_6 hR) ?_)
  refine And.intro (zP_238 hS (by omega) (by omega)) (fun v19 e19 r19 => ?_)
  have f19 : v19 = 5 := (e19.trans ((congrArg (I 238) (by omega)).trans (hO.1.1.trans hk1)))
  refine And.intro (zA_234 hS) (zrd (v := (x.2.2.2.2.1)) m7 ?_)
  refine And.intro (zA_234 hS) ⟨_, (zWi (by omega)), ?_⟩
  refine And.intro r19 (And.intro (And.intro (fun h32 => False.elim (by omega)) (And.intro (fun h32 => False.elim (by omega)) (And.intro (fun h32 => False.elim (by omega)) (And.intro (fun h32 => False.elim (by omega)) (And.intro (fun h32 => False.elim (by omega)) (And.intro (fun h32 => False.elim (by omega)) (And.intro (fun h32 => False.elim (by omega)) (And.intro (fun h32 => False.elim (by omega)) (And.intro (fun h32 => False.elim (by omega)) (And.intro (fun h32 => False.elim (by omega)) (And.intro (fun h32 => False.elim (by omega)) (And.intro (fun h32 => False.elim (by omega)) (And.intro (fun h32 => False.elim (by omega)) True.intro))))))))))))) (fun h32 => ?_))
  refine And.intro (zA_234 hS) (zrdR (v := some 239) (zR_234_7 hR) ?_)
  refine And.intro (zP_239 hS (by omega) (by omega)) (fun v174 e174 r174 => ?_)
  have f174 : v174 = o.2.1 := (e174.trans ((zxcj (by omega) rfl).trans ((congrArg (I 239) (by omega)).trans hO.1.2.1)))
  refine And.intro (zA_234 hS) ⟨_, sn_G_sp1.up (by decide), ?_⟩
  refine ⟨g, lim, (mNx x (x.2.2.2.2.1 + 1)), (v174 : Int), rfl, hS, hR, h3, (by omega), (zMs_n hM ((show _ = (((x.2.2.2.2.1) + 1) : Int) from rfl).trans (by omega)) (fun c j h => (zxcj (by omega) rfl))), hli, hlm, r174, ?_⟩
  intro I175o L175o p175hM2 p175bh51 p175bbfr p175bbbfrL
  refine And.intro (zRb rfl) (zbt rfl ?_)
  refine And.intro r19 (And.intro (And.intro (fun h183 => False.elim (by omega)) (And.intro (fun h183 => False.elim (by omega)) (And.intro (fun h183 => False.elim (by omega)) (And.intro (fun h183 => False.elim (by omega)) (And.intro (fun h183 => ?_) (And.intro (fun h183 => False.elim (by omega)) (And.intro (fun h183 => False.elim (by omega)) (And.intro (fun h183 => False.elim (by omega)) (And.intro (fun h183 => False.elim (by omega)) (And.intro (fun h183 => False.elim (by omega)) (And.intro (fun h183 => False.elim (by omega)) (And.intro (fun h183 => False.elim (by omega)) (And.intro (fun h183 => False.elim (by omega)) (And.intro (fun h183 => False.elim (by omega)) (And.intro (fun h183 => False.elim (by omega)) (And.intro (fun h183 => False.elim (by omega)) (And.intro (fun h183 => False.elim (by omega)) (And.intro (fun h183 => False.elim (by omega)) True.intro)))))))))))))))))) (fun h183 => False.elim (by omega)))
  refine And.intro (zA_234 hS) ⟨_, sn_G_ac5.up (by decide), ?_⟩
  refine ⟨g, lim, (x.1, x.2.1 + 1, (mNx x (x.2.2.2.2.1 + 1)).2.2), i, kc, o, (600 * g + i), (show [zvr 234, zvi v19, zvi (600 * (g : Int) + x.2.2.2.2.1)] = _ from by rw [f19, hN]), hS, hR, ((p175bbfr 234 3 (by omega)).trans h3), (by omega), p175hM2, (zOr_fr hO (Nat.le_refl _) (fun c h1 h2 => ((p175bbfr _ _ (by omega)).trans (zxcj (by omega) rfl))) (fun c j h1 h2 => ((p175bbfr c j (by omega)).trans (zxcj (by omega) rfl)))), (p175bh51.trans f174), (by omega), (by omega), (by omega), hk1, ?_⟩
  intro I323o L323o p323hM2 p323bfr p323bbfrL
  refine hQ _ _ (zMs_x (mAw_5 (Or.inl hk1)).symm p323hM2) (fun c j h0 h1 h2 h3 h4 h5 h6 h7 h8 h9 h10 h11 h12 h13 h14 h15 h16 h17 h18 h19 h20 h21 h22 h23 h24 h25 h26 h27 h28 h29 => ((p323bfr c j h0 h1 h6 h8 h9 h10 h11 h12 h13 h14 h15 h16 h23 h26 h27 h28).trans ((p175bbfr c j h7).trans (zxcj h16 rfl)))) (fun c j h0 h1 h2 h3 h4 h5 h6 => ((p323bbfrL c j h0 h1 h2 h4 h5).trans ((p175bbbfrL c j h6).trans rfl))))
def T_G_wy6 : ZT := fun args I L R S Q => ∃ (g : Nat) (lim : Nat) (x : MsT) (i : Nat) (kc : Nat) (o : OrT) (u : Nat → Int), args = [zvr 234] ∧ (zSh S) ∧ (zRs R) ∧ (I 234 3 = g) ∧ (g ≤ 1) ∧ (zMs g lim x I L) ∧ (x.2.2.2.2.1 = i) ∧ (zOr g kc i o I) ∧ (kc ≤ 1000) ∧ (i ≤ 599) ∧ (o.1 = 6) ∧ (lim ≤ 300 ∧ x.2.1 ≤ lim) ∧ (x.2.1 < lim) ∧ ∀ (I' : ZI) (L' : ZI), (zMs g lim (mAc i o u (x.1, x.2.1 + 1, (mNx x (x.2.2.2.2.1 + 1)).2.2)) I' L') → (∀ c j : Nat, ¬ (c = 234 ∧ j = 28) → ¬ (c = 234 ∧ j = 30) → ¬ (c = 234 ∧ j = 36) → ¬ (c = 234 ∧ j = 38) → ¬ (c = 234 ∧ j = 40) → ¬ (c = 234 ∧ j = 42) → ¬ (c = 234 ∧ j = 44) → ¬ (c = 234 ∧ j = 51) → ¬ (c = 234 ∧ j = 66) → ¬ (c = 234 ∧ j = 53) → ¬ (c = 234 ∧ j = 55) → ¬ (c = 234 ∧ j = 46) → ¬ (c = 234 ∧ j = 47) → ¬ (c = 234 ∧ j = 48) → ¬ (c = 234 ∧ j = 49) → ¬ (c = 234 ∧ j = 50) → ¬ (c = 234 ∧ j = 52) → ¬ (c = 234 ∧ j = 45) → ¬ c = 254 → ¬ c = 255 → ¬ c = 256 → ¬ c = 257 → ¬ c = 258 → ¬ c = 259 → ¬ c = 260 → ¬ c = 261 → ¬ c = 262 → ¬ c = 263 → ¬ c = 264 → ¬ c = 266 → I' c j = I c j) → (∀ c j : Nat, ¬ c = 251 → ¬ c = 252 → ¬ c = 253 → ¬ c = 265 → ¬ c = 267 → ¬ (c = 234 ∧ j = 65) → ¬ (c = 234 ∧ j = 35) → L' c j = L c j) → Q none I' L' R S
theorem sn_G_wy6 : ZSnd 5 12 55 T_G_wy6 := ZSnd.of (zT12_55 4) (by
  rintro args I L R S Q hz ⟨g, lim, x, i, kc, o, u, rfl, hS, hR, h3, hg, hM, hN, hO, hkc, hi6, hk1, hli, hlm, hQ⟩
  obtain ⟨m1, m2, m3, m4, m5, m6, m7, ⟨m8, m8b⟩, m9, ⟨m10, m10b⟩, m11, m12, m13⟩ := id hM
  obtain ⟨hV1, ⟨hV2, hV2b⟩, hV3, ⟨hV4, hV4b⟩, hV5⟩ := id m1
  obtain ⟨hnx1, hnx2⟩ : r32 x.2.2.2.2.1 := by rw [← m7]; exact hz.1 234 52
  have m4a := m4.1
  have m4b := m4.2
  refine And.intro rfl ?_
  refine And.intro (zA_234 hS) (zrd (v := g) h3 ?_)
  refine And.intro (zA_234 hS) (zrd (v := (x.2.2.2.2.1)) m7 ?_)
  refine And.intro (zA_234 hS) (zrdR (v := some 238) (zR_234_6 hR) ?_)
  refine And.intro (zP_238 hS (by omega) (by omega)) (fun v19 e19 r19 => ?_)
  have f19 : v19 = 6 := (e19.trans ((congrArg (I 238) (by omega)).trans (hO.1.1.trans hk1)))
  refine And.intro (zA_234 hS) (zrd (v := (x.2.2.2.2.1)) m7 ?_)
  refine And.intro (zA_234 hS) ⟨_, (zWi (by omega)), ?_⟩
  refine And.intro r19 (And.intro (And.intro (fun h32 => False.elim (by omega)) (And.intro (fun h32 => False.elim (by omega)) (And.intro (fun h32 => False.elim (by omega)) (And.intro (fun h32 => False.elim (by omega)) (And.intro (fun h32 => False.elim (by omega)) (And.intro (fun h32 => False.elim (by omega)) (And.intro (fun h32 => False.elim (by omega)) (And.intro (fun h32 => False.elim (by omega)) (And.intro (fun h32 => False.elim (by omega)) (And.intro (fun h32 => False.elim (by omega)) (And.intro (fun h32 => False.elim (by omega)) (And.intro (fun h32 => False.elim (by omega)) (And.intro (fun h32 => False.elim (by omega)) True.intro))))))))))))) (fun h32 => ?_))
  refine And.intro (zA_234 hS) (zrdR (v := some 239) (zR_234_7 hR) ?_)
  refine And.intro (zP_239 hS (by omega) (by omega)) (fun v174 e174 r174 => ?_)
  have f174 : v174 = o.2.1 := (e174.trans ((zxcj (by omega) rfl).trans ((congrArg (I 239) (by omega)).trans hO.1.2.1)))
  refine And.intro (zA_234 hS) ⟨_, sn_G_sp1.up (by decide), ?_⟩
  refine ⟨g, lim, (mNx x (x.2.2.2.2.1 + 1)), (v174 : Int), rfl, hS, hR, h3, (by omega), (zMs_n hM ((show _ = (((x.2.2.2.2.1) + 1) : Int) from rfl).trans (by omega)) (fun c j h => (zxcj (by omega) rfl))), hli, hlm, r174, ?_⟩
  intro I175o L175o p175hM2 p175bh51 p175bbfr p175bbbfrL
  refine And.intro (zRb rfl) (zbt rfl ?_)
  refine And.intro r19 (And.intro (And.intro (fun h183 => False.elim (by omega)) (And.intro (fun h183 => False.elim (by omega)) (And.intro (fun h183 => False.elim (by omega)) (And.intro (fun h183 => False.elim (by omega)) (And.intro (fun h183 => False.elim (by omega)) (And.intro (fun h183 => ?_) (And.intro (fun h183 => False.elim (by omega)) (And.intro (fun h183 => False.elim (by omega)) (And.intro (fun h183 => False.elim (by omega)) (And.intro (fun h183 => False.elim (by omega)) (And.intro (fun h183 => False.elim (by omega)) (And.intro (fun h183 => False.elim (by omega)) (And.intro (fun h183 => False.elim (by omega)) (And.intro (fun h183 => False.elim (by omega)) (And.intro (fun h183 => False.elim (by omega)) (And.intro (fun h183 => False.elim (by omega)) (And.intro (fun h183 => False.elim (by omega)) (And.intro (fun h183 => False.elim (by omega)) True.intro)))))))))))))))))) (fun h183 => False.elim (by omega)))
  refine And.intro (zA_234 hS) ⟨_, sn_G_ac6.up (by decide), ?_⟩
  refine ⟨g, lim, (x.1, x.2.1 + 1, (mNx x (x.2.2.2.2.1 + 1)).2.2), i, kc, o, (600 * g + i), (show [zvr 234, zvi v19, zvi (600 * (g : Int) + x.2.2.2.2.1)] = _ from by rw [f19, hN]), hS, hR, ((p175bbfr 234 3 (by omega)).trans h3), (by omega), p175hM2, (zOr_fr hO (Nat.le_refl _) (fun c h1 h2 => ((p175bbfr _ _ (by omega)).trans (zxcj (by omega) rfl))) (fun c j h1 h2 => ((p175bbfr c j (by omega)).trans (zxcj (by omega) rfl)))), (p175bh51.trans f174), (by omega), (by omega), (by omega), hk1, ?_⟩
  intro I323o L323o p323hM2 p323bfr p323bbfrL
  refine hQ _ _ (zMs_x (mAw_5 (Or.inr hk1)).symm p323hM2) (fun c j h0 h1 h2 h3 h4 h5 h6 h7 h8 h9 h10 h11 h12 h13 h14 h15 h16 h17 h18 h19 h20 h21 h22 h23 h24 h25 h26 h27 h28 h29 => ((p323bfr c j h0 h1 h6 h8 h9 h10 h11 h12 h13 h14 h15 h16 h23 h26 h27 h28).trans ((p175bbfr c j h7).trans (zxcj h16 rfl)))) (fun c j h0 h1 h2 h3 h4 h5 h6 => ((p323bbfrL c j h0 h1 h2 h4 h5).trans ((p175bbbfrL c j h6).trans rfl))))
def T_G_wy7 : ZT := fun args I L R S Q => ∃ (g : Nat) (lim : Nat) (x : MsT) (i : Nat) (kc : Nat) (o : OrT) (u : Nat → Int), args = [zvr 234] ∧ (zSh S) ∧ (zRs R) ∧ (I 234 3 = g) ∧ (g ≤ 1) ∧ (zMs g lim x I L) ∧ (x.2.2.2.2.1 = i) ∧ (zOr g kc i o I) ∧ (kc ≤ 1000) ∧ (i ≤ 599) ∧ (o.1 = 7) ∧ (lim ≤ 300 ∧ x.2.1 ≤ lim) ∧ (x.2.1 < lim) ∧ (x.2.2.2.2.2.2.2.length ≤ 14) ∧ ∀ (I' : ZI) (L' : ZI), (zMs g lim (mAc i o u (x.1, x.2.1 + 1, (mNx x (x.2.2.2.2.1 + 1)).2.2)) I' L') → (∀ c j : Nat, ¬ (c = 234 ∧ j = 28) → ¬ (c = 234 ∧ j = 30) → ¬ (c = 234 ∧ j = 36) → ¬ (c = 234 ∧ j = 38) → ¬ (c = 234 ∧ j = 40) → ¬ (c = 234 ∧ j = 42) → ¬ (c = 234 ∧ j = 44) → ¬ (c = 234 ∧ j = 51) → ¬ (c = 234 ∧ j = 66) → ¬ (c = 234 ∧ j = 53) → ¬ (c = 234 ∧ j = 55) → ¬ (c = 234 ∧ j = 46) → ¬ (c = 234 ∧ j = 47) → ¬ (c = 234 ∧ j = 48) → ¬ (c = 234 ∧ j = 49) → ¬ (c = 234 ∧ j = 50) → ¬ (c = 234 ∧ j = 52) → ¬ (c = 234 ∧ j = 45) → ¬ c = 254 → ¬ c = 255 → ¬ c = 256 → ¬ c = 257 → ¬ c = 258 → ¬ c = 259 → ¬ c = 260 → ¬ c = 261 → ¬ c = 262 → ¬ c = 263 → ¬ c = 264 → ¬ c = 266 → I' c j = I c j) → (∀ c j : Nat, ¬ c = 251 → ¬ c = 252 → ¬ c = 253 → ¬ c = 265 → ¬ c = 267 → ¬ (c = 234 ∧ j = 65) → ¬ (c = 234 ∧ j = 35) → L' c j = L c j) → Q none I' L' R S
theorem sn_G_wy7 : ZSnd 5 12 55 T_G_wy7 := ZSnd.of (zT12_55 4) (by
  rintro args I L R S Q hz ⟨g, lim, x, i, kc, o, u, rfl, hS, hR, h3, hg, hM, hN, hO, hkc, hi6, hk1, hli, hlm, hl4, hQ⟩
  obtain ⟨m1, m2, m3, m4, m5, m6, m7, ⟨m8, m8b⟩, m9, ⟨m10, m10b⟩, m11, m12, m13⟩ := id hM
  obtain ⟨hV1, ⟨hV2, hV2b⟩, hV3, ⟨hV4, hV4b⟩, hV5⟩ := id m1
  obtain ⟨hnx1, hnx2⟩ : r32 x.2.2.2.2.1 := by rw [← m7]; exact hz.1 234 52
  have m4a := m4.1
  have m4b := m4.2
  refine And.intro rfl ?_
  refine And.intro (zA_234 hS) (zrd (v := g) h3 ?_)
  refine And.intro (zA_234 hS) (zrd (v := (x.2.2.2.2.1)) m7 ?_)
  refine And.intro (zA_234 hS) (zrdR (v := some 238) (zR_234_6 hR) ?_)
  refine And.intro (zP_238 hS (by omega) (by omega)) (fun v19 e19 r19 => ?_)
  have f19 : v19 = 7 := (e19.trans ((congrArg (I 238) (by omega)).trans (hO.1.1.trans hk1)))
  refine And.intro (zA_234 hS) (zrd (v := (x.2.2.2.2.1)) m7 ?_)
  refine And.intro (zA_234 hS) ⟨_, (zWi (by omega)), ?_⟩
  refine And.intro r19 (And.intro (And.intro (fun h32 => False.elim (by omega)) (And.intro (fun h32 => False.elim (by omega)) (And.intro (fun h32 => False.elim (by omega)) (And.intro (fun h32 => False.elim (by omega)) (And.intro (fun h32 => False.elim (by omega)) (And.intro (fun h32 => False.elim (by omega)) (And.intro (fun h32 => False.elim (by omega)) (And.intro (fun h32 => False.elim (by omega)) (And.intro (fun h32 => False.elim (by omega)) (And.intro (fun h32 => False.elim (by omega)) (And.intro (fun h32 => False.elim (by omega)) (And.intro (fun h32 => False.elim (by omega)) (And.intro (fun h32 => False.elim (by omega)) True.intro))))))))))))) (fun h32 => ?_))
  refine And.intro (zA_234 hS) (zrdR (v := some 239) (zR_234_7 hR) ?_)
  refine And.intro (zP_239 hS (by omega) (by omega)) (fun v174 e174 r174 => ?_)
  have f174 : v174 = o.2.1 := (e174.trans ((zxcj (by omega) rfl).trans ((congrArg (I 239) (by omega)).trans hO.1.2.1)))
  refine And.intro (zA_234 hS) ⟨_, sn_G_sp1.up (by decide), ?_⟩
  refine ⟨g, lim, (mNx x (x.2.2.2.2.1 + 1)), (v174 : Int), rfl, hS, hR, h3, (by omega), (zMs_n hM ((show _ = (((x.2.2.2.2.1) + 1) : Int) from rfl).trans (by omega)) (fun c j h => (zxcj (by omega) rfl))), hli, hlm, r174, ?_⟩
  intro I175o L175o p175hM2 p175bh51 p175bbfr p175bbbfrL
  refine And.intro (zRb rfl) (zbt rfl ?_)
  refine And.intro r19 (And.intro (And.intro (fun h183 => False.elim (by omega)) (And.intro (fun h183 => False.elim (by omega)) (And.intro (fun h183 => False.elim (by omega)) (And.intro (fun h183 => False.elim (by omega)) (And.intro (fun h183 => False.elim (by omega)) (And.intro (fun h183 => False.elim (by omega)) (And.intro (fun h183 => ?_) (And.intro (fun h183 => False.elim (by omega)) (And.intro (fun h183 => False.elim (by omega)) (And.intro (fun h183 => False.elim (by omega)) (And.intro (fun h183 => False.elim (by omega)) (And.intro (fun h183 => False.elim (by omega)) (And.intro (fun h183 => False.elim (by omega)) (And.intro (fun h183 => False.elim (by omega)) (And.intro (fun h183 => False.elim (by omega)) (And.intro (fun h183 => False.elim (by omega)) (And.intro (fun h183 => False.elim (by omega)) (And.intro (fun h183 => False.elim (by omega)) True.intro)))))))))))))))))) (fun h183 => False.elim (by omega)))
  refine And.intro (zA_234 hS) (fun v279 e279 r279 => ?_)
  refine And.intro (zA_234 hS) ⟨_, sn_G_hnd.up (by decide), ?_⟩
  refine ⟨x.2.2.2.2.2.2.2, x.1.1, x.2.2.2.2.2.1, 7, v279, rfl, hS, hR, p175hM2.2.2.2.2.2.2.2.2.2.1.1, (by omega), p175hM2.2.2.2.2.2.2.2.2.2.2.1, p175hM2.1, p175hM2.2.2.2.2.2.2.2.1.1, m8b, hl4, (by omega), r279, ?_⟩
  intro I282o L282o p282hH2 p282bg55 p282bbfr p282bbbfrL
  refine And.intro (zA_234 hS) (fun v287 e287 r287 => ?_)
  refine And.intro (zA_234 hS) ⟨_, zWt _, ?_⟩
  refine hQ _ _ (zMs_x (mAw_7 hk1).symm (zMs_c p175hM2 (fun c j h => (zxcj (by omega) ((p282bbfr c j (by omega) (by omega) (by omega) (by omega) (by omega) (by omega)).trans rfl))) (fun c j h => ((p282bbbfrL c j (by omega)).trans rfl)) (((p282bbbfrL _ _ (by omega)).trans rfl).trans p175hM2.2.2.2.1.1) ((zxcj (by omega) ((p282bbfr _ _ (by omega) (by omega) (by omega) (by omega) (by omega) (by omega)).trans rfl)).trans p175hM2.2.2.2.2.1.1) ((zxcj (by omega) ((p282bbfr _ _ (by omega) (by omega) (by omega) (by omega) (by omega) (by omega)).trans rfl)).trans p175hM2.2.2.2.2.1.2) ((zxcj (by omega) ((p282bbfr _ _ (by omega) (by omega) (by omega) (by omega) (by omega) (by omega)).trans rfl)).trans p175hM2.2.2.2.2.2.2.1) ⟨(zxcj (by omega) ((p282bbfr _ _ (by omega) (by omega) (by omega) (by omega) (by omega) (by omega)).trans rfl)).trans p175hM2.2.2.2.2.2.2.2.1.1, m8b⟩ (fun i hi => (zxcj (by omega) ((p282bbfr _ _ (by omega) (by omega) (by omega) (by omega) (by omega) (by omega)).trans rfl)).trans (p175hM2.2.2.2.2.2.2.2.2.1 i hi)) ⟨(show _ = (((x.2.2.2.2.2.2.2).length + 1) : Int) from p282bg55).trans (by show _ = ((x.2.2.2.2.2.2.2.length + 1 : Nat) : Int); omega), by show x.2.2.2.2.2.2.2.length + 1 ≤ 15; omega⟩ (zHs_7 (zHs_fr p282hH2 (fun c j h1 h2 h3 => zxcj (by omega) rfl) (fun j hj => rfl))) (zc42 (zxcj (by omega) ((p282bbfr _ _ (by omega) (by omega) (by omega) (by omega) (by omega) (by omega)).trans rfl)) p175hM2.2.2.2.2.2.2.2.2.2.2.2.1))) (fun c j h0 h1 h2 h3 h4 h5 h6 h7 h8 h9 h10 h11 h12 h13 h14 h15 h16 h17 h18 h19 h20 h21 h22 h23 h24 h25 h26 h27 h28 h29 => (zxcj h17 ((p282bbfr c j h10 (fun w => h23 w.1) (fun w => h24 w.1) (fun w => h25 w.1) (fun w => h26 w.1) (fun w => h29 w.1)).trans ((p175bbfr c j h7).trans (zxcj h16 rfl))))) (fun c j h0 h1 h2 h3 h4 h5 h6 => ((p282bbbfrL c j h3).trans ((p175bbbfrL c j h6).trans rfl))))
def T_G_wy9 : ZT := fun args I L R S Q => ∃ (g : Nat) (lim : Nat) (x : MsT) (i : Nat) (kc : Nat) (o : OrT) (u : Nat → Int), args = [zvr 234] ∧ (zSh S) ∧ (zRs R) ∧ (I 234 3 = g) ∧ (g ≤ 1) ∧ (zMs g lim x I L) ∧ (x.2.2.2.2.1 = i) ∧ (zOr g kc i o I) ∧ (kc ≤ 1000) ∧ (i ≤ 599) ∧ (o.1 = 9) ∧ (lim ≤ 300 ∧ x.2.1 ≤ lim) ∧ (x.2.1 < lim) ∧ (x.2.2.2.2.2.2.2.length ≤ 14) ∧ ∀ (I' : ZI) (L' : ZI), (zMs g lim (mAc i o u (x.1, x.2.1 + 1, (mNx x (x.2.2.2.2.1 + 1)).2.2)) I' L') → (∀ c j : Nat, ¬ (c = 234 ∧ j = 28) → ¬ (c = 234 ∧ j = 30) → ¬ (c = 234 ∧ j = 36) → ¬ (c = 234 ∧ j = 38) → ¬ (c = 234 ∧ j = 40) → ¬ (c = 234 ∧ j = 42) → ¬ (c = 234 ∧ j = 44) → ¬ (c = 234 ∧ j = 51) → ¬ (c = 234 ∧ j = 66) → ¬ (c = 234 ∧ j = 53) → ¬ (c = 234 ∧ j = 55) → ¬ (c = 234 ∧ j = 46) → ¬ (c = 234 ∧ j = 47) → ¬ (c = 234 ∧ j = 48) → ¬ (c = 234 ∧ j = 49) → ¬ (c = 234 ∧ j = 50) → ¬ (c = 234 ∧ j = 52) → ¬ (c = 234 ∧ j = 45) → ¬ c = 254 → ¬ c = 255 → ¬ c = 256 → ¬ c = 257 → ¬ c = 258 → ¬ c = 259 → ¬ c = 260 → ¬ c = 261 → ¬ c = 262 → ¬ c = 263 → ¬ c = 264 → ¬ c = 266 → I' c j = I c j) → (∀ c j : Nat, ¬ c = 251 → ¬ c = 252 → ¬ c = 253 → ¬ c = 265 → ¬ c = 267 → ¬ (c = 234 ∧ j = 65) → ¬ (c = 234 ∧ j = 35) → L' c j = L c j) → Q none I' L' R S
theorem sn_G_wy9 : ZSnd 5 12 55 T_G_wy9 := ZSnd.of (zT12_55 4) (by
  rintro args I L R S Q hz ⟨g, lim, x, i, kc, o, u, rfl, hS, hR, h3, hg, hM, hN, hO, hkc, hi6, hk1, hli, hlm, hl4, hQ⟩
  obtain ⟨m1, m2, m3, m4, m5, m6, m7, ⟨m8, m8b⟩, m9, ⟨m10, m10b⟩, m11, m12, m13⟩ := id hM
  obtain ⟨hV1, ⟨hV2, hV2b⟩, hV3, ⟨hV4, hV4b⟩, hV5⟩ := id m1
  obtain ⟨hnx1, hnx2⟩ : r32 x.2.2.2.2.1 := by rw [← m7]; exact hz.1 234 52
  have m4a := m4.1
  have m4b := m4.2
  refine And.intro rfl ?_
  refine And.intro (zA_234 hS) (zrd (v := g) h3 ?_)
  refine And.intro (zA_234 hS) (zrd (v := (x.2.2.2.2.1)) m7 ?_)
  refine And.intro (zA_234 hS) (zrdR (v := some 238) (zR_234_6 hR) ?_)
  refine And.intro (zP_238 hS (by omega) (by omega)) (fun v19 e19 r19 => ?_)
  have f19 : v19 = 9 := (e19.trans ((congrArg (I 238) (by omega)).trans (hO.1.1.trans hk1)))
  refine And.intro (zA_234 hS) (zrd (v := (x.2.2.2.2.1)) m7 ?_)
  refine And.intro (zA_234 hS) ⟨_, (zWi (by omega)), ?_⟩
  refine And.intro r19 (And.intro (And.intro (fun h32 => False.elim (by omega)) (And.intro (fun h32 => ?_) (And.intro (fun h32 => False.elim (by omega)) (And.intro (fun h32 => False.elim (by omega)) (And.intro (fun h32 => False.elim (by omega)) (And.intro (fun h32 => False.elim (by omega)) (And.intro (fun h32 => False.elim (by omega)) (And.intro (fun h32 => False.elim (by omega)) (And.intro (fun h32 => False.elim (by omega)) (And.intro (fun h32 => False.elim (by omega)) (And.intro (fun h32 => False.elim (by omega)) (And.intro (fun h32 => False.elim (by omega)) (And.intro (fun h32 => False.elim (by omega)) True.intro))))))))))))) (fun h32 => False.elim (by omega)))
  refine And.intro (zA_234 hS) (zrdR (v := some 239) (zR_234_7 hR) ?_)
  refine And.intro (zP_239 hS (by omega) (by omega)) (fun v174 e174 r174 => ?_)
  have f174 : v174 = o.2.1 := (e174.trans ((zxcj (by omega) rfl).trans ((congrArg (I 239) (by omega)).trans hO.1.2.1)))
  refine And.intro (zA_234 hS) ⟨_, sn_G_sp1.up (by decide), ?_⟩
  refine ⟨g, lim, (mNx x (x.2.2.2.2.1 + 1)), (v174 : Int), rfl, hS, hR, h3, (by omega), (zMs_n hM ((show _ = (((x.2.2.2.2.1) + 1) : Int) from rfl).trans (by omega)) (fun c j h => (zxcj (by omega) rfl))), hli, hlm, r174, ?_⟩
  intro I175o L175o p175hM2 p175bh51 p175bbfr p175bbbfrL
  refine And.intro (zRb rfl) (zbt rfl ?_)
  refine And.intro r19 (And.intro (And.intro (fun h183 => False.elim (by omega)) (And.intro (fun h183 => False.elim (by omega)) (And.intro (fun h183 => False.elim (by omega)) (And.intro (fun h183 => False.elim (by omega)) (And.intro (fun h183 => False.elim (by omega)) (And.intro (fun h183 => False.elim (by omega)) (And.intro (fun h183 => False.elim (by omega)) (And.intro (fun h183 => False.elim (by omega)) (And.intro (fun h183 => ?_) (And.intro (fun h183 => False.elim (by omega)) (And.intro (fun h183 => False.elim (by omega)) (And.intro (fun h183 => False.elim (by omega)) (And.intro (fun h183 => False.elim (by omega)) (And.intro (fun h183 => False.elim (by omega)) (And.intro (fun h183 => False.elim (by omega)) (And.intro (fun h183 => False.elim (by omega)) (And.intro (fun h183 => False.elim (by omega)) (And.intro (fun h183 => False.elim (by omega)) True.intro)))))))))))))))))) (fun h183 => False.elim (by omega)))
  refine And.intro (zA_234 hS) (zrdR (v := some 243) (zR_234_11 hR) ?_)
  refine And.intro (zP_243 hS (by omega) (by omega)) (fun v304 e304 r304 => ?_)
  have f304 : v304 = o.2.2.2.2.2 := (e304.trans (((p175bbfr _ _ (by omega)).trans (zxcj (by omega) rfl)).trans ((congrArg (I 243) (by omega)).trans hO.1.2.2.2)))
  refine And.intro (zA_234 hS) ⟨_, sn_G_hnd.up (by decide), ?_⟩
  refine ⟨x.2.2.2.2.2.2.2, x.1.1, x.2.2.2.2.2.1, 9, v304, rfl, hS, hR, p175hM2.2.2.2.2.2.2.2.2.2.1.1, (by omega), p175hM2.2.2.2.2.2.2.2.2.2.2.1, p175hM2.1, p175hM2.2.2.2.2.2.2.2.1.1, m8b, hl4, (by omega), r304, ?_⟩
  intro I305o L305o p305hH2 p305bg55 p305bbfr p305bbbfrL
  refine hQ _ _ (zMs_x (mAw_9 hk1).symm (zMs_c p175hM2 (fun c j h => ((p305bbfr c j (by omega) (by omega) (by omega) (by omega) (by omega) (by omega)).trans rfl)) (fun c j h => ((p305bbbfrL c j (by omega)).trans rfl)) (((p305bbbfrL _ _ (by omega)).trans rfl).trans p175hM2.2.2.2.1.1) (((p305bbfr _ _ (by omega) (by omega) (by omega) (by omega) (by omega) (by omega)).trans rfl).trans p175hM2.2.2.2.2.1.1) (((p305bbfr _ _ (by omega) (by omega) (by omega) (by omega) (by omega) (by omega)).trans rfl).trans p175hM2.2.2.2.2.1.2) (((p305bbfr _ _ (by omega) (by omega) (by omega) (by omega) (by omega) (by omega)).trans rfl).trans p175hM2.2.2.2.2.2.2.1) ⟨((p305bbfr _ _ (by omega) (by omega) (by omega) (by omega) (by omega) (by omega)).trans rfl).trans p175hM2.2.2.2.2.2.2.2.1.1, m8b⟩ (fun i hi => ((p305bbfr _ _ (by omega) (by omega) (by omega) (by omega) (by omega) (by omega)).trans rfl).trans (p175hM2.2.2.2.2.2.2.2.2.1 i hi)) ⟨(show _ = (((x.2.2.2.2.2.2.2).length + 1) : Int) from p305bg55).trans (by show _ = ((x.2.2.2.2.2.2.2.length + 1 : Nat) : Int); omega), by show x.2.2.2.2.2.2.2.length + 1 ≤ 15; omega⟩ (by rw [← f304]; exact p305hH2) (zc42 ((p305bbfr _ _ (by omega) (by omega) (by omega) (by omega) (by omega) (by omega)).trans rfl) p175hM2.2.2.2.2.2.2.2.2.2.2.2.1))) (fun c j h0 h1 h2 h3 h4 h5 h6 h7 h8 h9 h10 h11 h12 h13 h14 h15 h16 h17 h18 h19 h20 h21 h22 h23 h24 h25 h26 h27 h28 h29 => ((p305bbfr c j h10 (fun w => h23 w.1) (fun w => h24 w.1) (fun w => h25 w.1) (fun w => h26 w.1) (fun w => h29 w.1)).trans ((p175bbfr c j h7).trans (zxcj h16 rfl)))) (fun c j h0 h1 h2 h3 h4 h5 h6 => ((p305bbbfrL c j h3).trans ((p175bbbfrL c j h6).trans rfl))))
def T_G_wy12 : ZT := fun args I L R S Q => ∃ (g : Nat) (lim : Nat) (x : MsT) (i : Nat) (kc : Nat) (o : OrT) (u : Nat → Int), args = [zvr 234] ∧ (zSh S) ∧ (zRs R) ∧ (I 234 3 = g) ∧ (g ≤ 1) ∧ (zMs g lim x I L) ∧ (x.2.2.2.2.1 = i) ∧ (zOr g kc i o I) ∧ (kc ≤ 1000) ∧ (i ≤ 599) ∧ (o.1 = 12) ∧ (lim ≤ 300 ∧ x.2.1 ≤ lim) ∧ (x.2.1 < lim) ∧ ∀ (I' : ZI) (L' : ZI), (zMs g lim (mAc i o u (x.1, x.2.1 + 1, (mNx x (x.2.2.2.2.1 + 1)).2.2)) I' L') → (∀ c j : Nat, ¬ (c = 234 ∧ j = 28) → ¬ (c = 234 ∧ j = 30) → ¬ (c = 234 ∧ j = 36) → ¬ (c = 234 ∧ j = 38) → ¬ (c = 234 ∧ j = 40) → ¬ (c = 234 ∧ j = 42) → ¬ (c = 234 ∧ j = 44) → ¬ (c = 234 ∧ j = 51) → ¬ (c = 234 ∧ j = 66) → ¬ (c = 234 ∧ j = 53) → ¬ (c = 234 ∧ j = 55) → ¬ (c = 234 ∧ j = 46) → ¬ (c = 234 ∧ j = 47) → ¬ (c = 234 ∧ j = 48) → ¬ (c = 234 ∧ j = 49) → ¬ (c = 234 ∧ j = 50) → ¬ (c = 234 ∧ j = 52) → ¬ (c = 234 ∧ j = 45) → ¬ c = 254 → ¬ c = 255 → ¬ c = 256 → ¬ c = 257 → ¬ c = 258 → ¬ c = 259 → ¬ c = 260 → ¬ c = 261 → ¬ c = 262 → ¬ c = 263 → ¬ c = 264 → ¬ c = 266 → I' c j = I c j) → (∀ c j : Nat, ¬ c = 251 → ¬ c = 252 → ¬ c = 253 → ¬ c = 265 → ¬ c = 267 → ¬ (c = 234 ∧ j = 65) → ¬ (c = 234 ∧ j = 35) → L' c j = L c j) → Q none I' L' R S
theorem sn_G_wy12 : ZSnd 5 12 55 T_G_wy12 := ZSnd.of (zT12_55 4) (by
  rintro args I L R S Q hz ⟨g, lim, x, i, kc, o, u, rfl, hS, hR, h3, hg, hM, hN, hO, hkc, hi6, hk1, hli, hlm, hQ⟩
  obtain ⟨m1, m2, m3, m4, m5, m6, m7, ⟨m8, m8b⟩, m9, ⟨m10, m10b⟩, m11, m12, m13⟩ := id hM
  obtain ⟨hV1, ⟨hV2, hV2b⟩, hV3, ⟨hV4, hV4b⟩, hV5⟩ := id m1
  obtain ⟨hnx1, hnx2⟩ : r32 x.2.2.2.2.1 := by rw [← m7]; exact hz.1 234 52
  have m4a := m4.1
  have m4b := m4.2
  refine And.intro rfl ?_
  refine And.intro (zA_234 hS) (zrd (v := g) h3 ?_)
  refine And.intro (zA_234 hS) (zrd (v := (x.2.2.2.2.1)) m7 ?_)
  refine And.intro (zA_234 hS) (zrdR (v := some 238) (zR_234_6 hR) ?_)
  refine And.intro (zP_238 hS (by omega) (by omega)) (fun v19 e19 r19 => ?_)
  have f19 : v19 = 12 := (e19.trans ((congrArg (I 238) (by omega)).trans (hO.1.1.trans hk1)))
  refine And.intro (zA_234 hS) (zrd (v := (x.2.2.2.2.1)) m7 ?_)
  refine And.intro (zA_234 hS) ⟨_, (zWi (by omega)), ?_⟩
  refine And.intro r19 (And.intro (And.intro (fun h32 => False.elim (by omega)) (And.intro (fun h32 => False.elim (by omega)) (And.intro (fun h32 => False.elim (by omega)) (And.intro (fun h32 => False.elim (by omega)) (And.intro (fun h32 => ?_) (And.intro (fun h32 => False.elim (by omega)) (And.intro (fun h32 => False.elim (by omega)) (And.intro (fun h32 => False.elim (by omega)) (And.intro (fun h32 => False.elim (by omega)) (And.intro (fun h32 => False.elim (by omega)) (And.intro (fun h32 => False.elim (by omega)) (And.intro (fun h32 => False.elim (by omega)) (And.intro (fun h32 => False.elim (by omega)) True.intro))))))))))))) (fun h32 => False.elim (by omega)))
  refine And.intro (zA_234 hS) (zrdR (v := some 239) (zR_234_7 hR) ?_)
  refine And.intro (zP_239 hS (by omega) (by omega)) (fun v174 e174 r174 => ?_)
  have f174 : v174 = o.2.1 := (e174.trans ((zxcj (by omega) rfl).trans ((congrArg (I 239) (by omega)).trans hO.1.2.1)))
  refine And.intro (zA_234 hS) ⟨_, sn_G_sp1.up (by decide), ?_⟩
  refine ⟨g, lim, (mNx x (x.2.2.2.2.1 + 1)), (v174 : Int), rfl, hS, hR, h3, (by omega), (zMs_n hM ((show _ = (((x.2.2.2.2.1) + 1) : Int) from rfl).trans (by omega)) (fun c j h => (zxcj (by omega) rfl))), hli, hlm, r174, ?_⟩
  intro I175o L175o p175hM2 p175bh51 p175bbfr p175bbbfrL
  refine And.intro (zRb rfl) (zbt rfl ?_)
  refine And.intro r19 (And.intro (And.intro (fun h183 => False.elim (by omega)) (And.intro (fun h183 => False.elim (by omega)) (And.intro (fun h183 => False.elim (by omega)) (And.intro (fun h183 => False.elim (by omega)) (And.intro (fun h183 => False.elim (by omega)) (And.intro (fun h183 => False.elim (by omega)) (And.intro (fun h183 => False.elim (by omega)) (And.intro (fun h183 => False.elim (by omega)) (And.intro (fun h183 => False.elim (by omega)) (And.intro (fun h183 => False.elim (by omega)) (And.intro (fun h183 => False.elim (by omega)) (And.intro (fun h183 => ?_) (And.intro (fun h183 => False.elim (by omega)) (And.intro (fun h183 => False.elim (by omega)) (And.intro (fun h183 => False.elim (by omega)) (And.intro (fun h183 => False.elim (by omega)) (And.intro (fun h183 => False.elim (by omega)) (And.intro (fun h183 => False.elim (by omega)) True.intro)))))))))))))))))) (fun h183 => False.elim (by omega)))
  refine And.intro (zA_234 hS) ⟨_, sn_G_ac12.up (by decide), ?_⟩
  refine ⟨g, lim, (x.1, x.2.1 + 1, (mNx x (x.2.2.2.2.1 + 1)).2.2), i, kc, o, (600 * g + i), (show [zvr 234, zvi v19, zvi (600 * (g : Int) + x.2.2.2.2.1)] = _ from by rw [f19, hN]), hS, hR, ((p175bbfr 234 3 (by omega)).trans h3), (by omega), p175hM2, (zOr_fr hO (Nat.le_refl _) (fun c h1 h2 => ((p175bbfr _ _ (by omega)).trans (zxcj (by omega) rfl))) (fun c j h1 h2 => ((p175bbfr c j (by omega)).trans (zxcj (by omega) rfl)))), (p175bh51.trans f174), (by omega), (by omega), (by omega), hk1, ?_⟩
  intro I323o L323o p323hM2 p323bfr p323bbfrL
  refine hQ _ _ (zMs_x (mAw_12 hk1).symm p323hM2) (fun c j h0 h1 h2 h3 h4 h5 h6 h7 h8 h9 h10 h11 h12 h13 h14 h15 h16 h17 h18 h19 h20 h21 h22 h23 h24 h25 h26 h27 h28 h29 => ((p323bfr c j h0 h1 h6 h8 h9 h10 h11 h12 h13 h14 h15 h16 h23 h26 h27 h28).trans ((p175bbfr c j h7).trans (zxcj h16 rfl)))) (fun c j h0 h1 h2 h3 h4 h5 h6 => ((p323bbfrL c j h0 h1 h2 h4 h5).trans ((p175bbbfrL c j h6).trans rfl))))
def T_G_wy13 : ZT := fun args I L R S Q => ∃ (g : Nat) (lim : Nat) (x : MsT) (i : Nat) (kc : Nat) (o : OrT) (u : Nat → Int), args = [zvr 234] ∧ (zSh S) ∧ (zRs R) ∧ (I 234 3 = g) ∧ (g ≤ 1) ∧ (zMs g lim x I L) ∧ (x.2.2.2.2.1 = i) ∧ (zOr g kc i o I) ∧ (kc ≤ 1000) ∧ (i ≤ 599) ∧ (o.1 = 13) ∧ (lim ≤ 300 ∧ x.2.1 ≤ lim) ∧ (x.2.1 < lim) ∧ ∀ (I' : ZI) (L' : ZI), (zMs g lim (mAc i o u (x.1, x.2.1 + 1, (mNx x (x.2.2.2.2.1 + 1)).2.2)) I' L') → (∀ c j : Nat, ¬ (c = 234 ∧ j = 28) → ¬ (c = 234 ∧ j = 30) → ¬ (c = 234 ∧ j = 36) → ¬ (c = 234 ∧ j = 38) → ¬ (c = 234 ∧ j = 40) → ¬ (c = 234 ∧ j = 42) → ¬ (c = 234 ∧ j = 44) → ¬ (c = 234 ∧ j = 51) → ¬ (c = 234 ∧ j = 66) → ¬ (c = 234 ∧ j = 53) → ¬ (c = 234 ∧ j = 55) → ¬ (c = 234 ∧ j = 46) → ¬ (c = 234 ∧ j = 47) → ¬ (c = 234 ∧ j = 48) → ¬ (c = 234 ∧ j = 49) → ¬ (c = 234 ∧ j = 50) → ¬ (c = 234 ∧ j = 52) → ¬ (c = 234 ∧ j = 45) → ¬ c = 254 → ¬ c = 255 → ¬ c = 256 → ¬ c = 257 → ¬ c = 258 → ¬ c = 259 → ¬ c = 260 → ¬ c = 261 → ¬ c = 262 → ¬ c = 263 → ¬ c = 264 → ¬ c = 266 → I' c j = I c j) → (∀ c j : Nat, ¬ c = 251 → ¬ c = 252 → ¬ c = 253 → ¬ c = 265 → ¬ c = 267 → ¬ (c = 234 ∧ j = 65) → ¬ (c = 234 ∧ j = 35) → L' c j = L c j) → Q none I' L' R S
theorem sn_G_wy13 : ZSnd 5 12 55 T_G_wy13 := ZSnd.of (zT12_55 4) (by
  rintro args I L R S Q hz ⟨g, lim, x, i, kc, o, u, rfl, hS, hR, h3, hg, hM, hN, hO, hkc, hi6, hk1, hli, hlm, hQ⟩
  obtain ⟨m1, m2, m3, m4, m5, m6, m7, ⟨m8, m8b⟩, m9, ⟨m10, m10b⟩, m11, m12, m13⟩ := id hM
  obtain ⟨hV1, ⟨hV2, hV2b⟩, hV3, ⟨hV4, hV4b⟩, hV5⟩ := id m1
  obtain ⟨hnx1, hnx2⟩ : r32 x.2.2.2.2.1 := by rw [← m7]; exact hz.1 234 52
  have m4a := m4.1
  have m4b := m4.2
  refine And.intro rfl ?_
  refine And.intro (zA_234 hS) (zrd (v := g) h3 ?_)
  refine And.intro (zA_234 hS) (zrd (v := (x.2.2.2.2.1)) m7 ?_)
  refine And.intro (zA_234 hS) (zrdR (v := some 238) (zR_234_6 hR) ?_)
  refine And.intro (zP_238 hS (by omega) (by omega)) (fun v19 e19 r19 => ?_)
  have f19 : v19 = 13 := (e19.trans ((congrArg (I 238) (by omega)).trans (hO.1.1.trans hk1)))
  refine And.intro (zA_234 hS) (zrd (v := (x.2.2.2.2.1)) m7 ?_)
  refine And.intro (zA_234 hS) ⟨_, (zWi (by omega)), ?_⟩
  refine And.intro r19 (And.intro (And.intro (fun h32 => False.elim (by omega)) (And.intro (fun h32 => False.elim (by omega)) (And.intro (fun h32 => False.elim (by omega)) (And.intro (fun h32 => False.elim (by omega)) (And.intro (fun h32 => False.elim (by omega)) (And.intro (fun h32 => ?_) (And.intro (fun h32 => False.elim (by omega)) (And.intro (fun h32 => False.elim (by omega)) (And.intro (fun h32 => False.elim (by omega)) (And.intro (fun h32 => False.elim (by omega)) (And.intro (fun h32 => False.elim (by omega)) (And.intro (fun h32 => False.elim (by omega)) (And.intro (fun h32 => False.elim (by omega)) True.intro))))))))))))) (fun h32 => False.elim (by omega)))
  refine And.intro (zA_234 hS) (zrdR (v := some 239) (zR_234_7 hR) ?_)
  refine And.intro (zP_239 hS (by omega) (by omega)) (fun v174 e174 r174 => ?_)
  have f174 : v174 = o.2.1 := (e174.trans ((zxcj (by omega) rfl).trans ((congrArg (I 239) (by omega)).trans hO.1.2.1)))
  refine And.intro (zA_234 hS) ⟨_, sn_G_sp1.up (by decide), ?_⟩
  refine ⟨g, lim, (mNx x (x.2.2.2.2.1 + 1)), (v174 : Int), rfl, hS, hR, h3, (by omega), (zMs_n hM ((show _ = (((x.2.2.2.2.1) + 1) : Int) from rfl).trans (by omega)) (fun c j h => (zxcj (by omega) rfl))), hli, hlm, r174, ?_⟩
  intro I175o L175o p175hM2 p175bh51 p175bbfr p175bbbfrL
  refine And.intro (zRb rfl) (zbt rfl ?_)
  refine And.intro r19 (And.intro (And.intro (fun h183 => False.elim (by omega)) (And.intro (fun h183 => False.elim (by omega)) (And.intro (fun h183 => False.elim (by omega)) (And.intro (fun h183 => False.elim (by omega)) (And.intro (fun h183 => False.elim (by omega)) (And.intro (fun h183 => False.elim (by omega)) (And.intro (fun h183 => False.elim (by omega)) (And.intro (fun h183 => False.elim (by omega)) (And.intro (fun h183 => False.elim (by omega)) (And.intro (fun h183 => False.elim (by omega)) (And.intro (fun h183 => False.elim (by omega)) (And.intro (fun h183 => False.elim (by omega)) (And.intro (fun h183 => ?_) (And.intro (fun h183 => False.elim (by omega)) (And.intro (fun h183 => False.elim (by omega)) (And.intro (fun h183 => False.elim (by omega)) (And.intro (fun h183 => False.elim (by omega)) (And.intro (fun h183 => False.elim (by omega)) True.intro)))))))))))))))))) (fun h183 => False.elim (by omega)))
  refine And.intro (zA_234 hS) ⟨_, sn_G_ac13.up (by decide), ?_⟩
  refine ⟨g, lim, (x.1, x.2.1 + 1, (mNx x (x.2.2.2.2.1 + 1)).2.2), i, kc, o, (600 * g + i), (show [zvr 234, zvi v19, zvi (600 * (g : Int) + x.2.2.2.2.1)] = _ from by rw [f19, hN]), hS, hR, ((p175bbfr 234 3 (by omega)).trans h3), (by omega), p175hM2, (zOr_fr hO (Nat.le_refl _) (fun c h1 h2 => ((p175bbfr _ _ (by omega)).trans (zxcj (by omega) rfl))) (fun c j h1 h2 => ((p175bbfr c j (by omega)).trans (zxcj (by omega) rfl)))), (p175bh51.trans f174), (by omega), (by omega), (by omega), hk1, ?_⟩
  intro I323o L323o p323hM2 p323bfr p323bbfrL
  refine hQ _ _ (zMs_x (mAw_13 hk1).symm p323hM2) (fun c j h0 h1 h2 h3 h4 h5 h6 h7 h8 h9 h10 h11 h12 h13 h14 h15 h16 h17 h18 h19 h20 h21 h22 h23 h24 h25 h26 h27 h28 h29 => ((p323bfr c j h0 h1 h6 h8 h9 h10 h11 h12 h13 h14 h15 h16 h23 h26 h27 h28).trans ((p175bbfr c j h7).trans (zxcj h16 rfl)))) (fun c j h0 h1 h2 h3 h4 h5 h6 => ((p323bbfrL c j h0 h1 h2 h4 h5).trans ((p175bbbfrL c j h6).trans rfl))))
def T_G_wy14 : ZT := fun args I L R S Q => ∃ (g : Nat) (lim : Nat) (x : MsT) (i : Nat) (kc : Nat) (o : OrT) (u : Nat → Int), args = [zvr 234] ∧ (zSh S) ∧ (zRs R) ∧ (I 234 3 = g) ∧ (g ≤ 1) ∧ (zMs g lim x I L) ∧ (x.2.2.2.2.1 = i) ∧ (zOr g kc i o I) ∧ (kc ≤ 1000) ∧ (i ≤ 599) ∧ (o.1 = 14) ∧ (lim ≤ 300 ∧ x.2.1 ≤ lim) ∧ (x.2.1 < lim) ∧ ∀ (I' : ZI) (L' : ZI), (zMs g lim (mAc i o u (x.1, x.2.1 + 1, (mNx x (x.2.2.2.2.1 + 1)).2.2)) I' L') → (∀ c j : Nat, ¬ (c = 234 ∧ j = 28) → ¬ (c = 234 ∧ j = 30) → ¬ (c = 234 ∧ j = 36) → ¬ (c = 234 ∧ j = 38) → ¬ (c = 234 ∧ j = 40) → ¬ (c = 234 ∧ j = 42) → ¬ (c = 234 ∧ j = 44) → ¬ (c = 234 ∧ j = 51) → ¬ (c = 234 ∧ j = 66) → ¬ (c = 234 ∧ j = 53) → ¬ (c = 234 ∧ j = 55) → ¬ (c = 234 ∧ j = 46) → ¬ (c = 234 ∧ j = 47) → ¬ (c = 234 ∧ j = 48) → ¬ (c = 234 ∧ j = 49) → ¬ (c = 234 ∧ j = 50) → ¬ (c = 234 ∧ j = 52) → ¬ (c = 234 ∧ j = 45) → ¬ c = 254 → ¬ c = 255 → ¬ c = 256 → ¬ c = 257 → ¬ c = 258 → ¬ c = 259 → ¬ c = 260 → ¬ c = 261 → ¬ c = 262 → ¬ c = 263 → ¬ c = 264 → ¬ c = 266 → I' c j = I c j) → (∀ c j : Nat, ¬ c = 251 → ¬ c = 252 → ¬ c = 253 → ¬ c = 265 → ¬ c = 267 → ¬ (c = 234 ∧ j = 65) → ¬ (c = 234 ∧ j = 35) → L' c j = L c j) → Q none I' L' R S
theorem sn_G_wy14 : ZSnd 5 12 55 T_G_wy14 := ZSnd.of (zT12_55 4) (by
  rintro args I L R S Q hz ⟨g, lim, x, i, kc, o, u, rfl, hS, hR, h3, hg, hM, hN, hO, hkc, hi6, hk1, hli, hlm, hQ⟩
  obtain ⟨m1, m2, m3, m4, m5, m6, m7, ⟨m8, m8b⟩, m9, ⟨m10, m10b⟩, m11, m12, m13⟩ := id hM
  obtain ⟨hV1, ⟨hV2, hV2b⟩, hV3, ⟨hV4, hV4b⟩, hV5⟩ := id m1
  obtain ⟨hnx1, hnx2⟩ : r32 x.2.2.2.2.1 := by rw [← m7]; exact hz.1 234 52
  have m4a := m4.1
  have m4b := m4.2
  refine And.intro rfl ?_
  refine And.intro (zA_234 hS) (zrd (v := g) h3 ?_)
  refine And.intro (zA_234 hS) (zrd (v := (x.2.2.2.2.1)) m7 ?_)
  refine And.intro (zA_234 hS) (zrdR (v := some 238) (zR_234_6 hR) ?_)
  refine And.intro (zP_238 hS (by omega) (by omega)) (fun v19 e19 r19 => ?_)
  have f19 : v19 = 14 := (e19.trans ((congrArg (I 238) (by omega)).trans (hO.1.1.trans hk1)))
  refine And.intro (zA_234 hS) (zrd (v := (x.2.2.2.2.1)) m7 ?_)
  refine And.intro (zA_234 hS) ⟨_, (zWi (by omega)), ?_⟩
  refine And.intro r19 (And.intro (And.intro (fun h32 => False.elim (by omega)) (And.intro (fun h32 => False.elim (by omega)) (And.intro (fun h32 => False.elim (by omega)) (And.intro (fun h32 => False.elim (by omega)) (And.intro (fun h32 => False.elim (by omega)) (And.intro (fun h32 => False.elim (by omega)) (And.intro (fun h32 => ?_) (And.intro (fun h32 => False.elim (by omega)) (And.intro (fun h32 => False.elim (by omega)) (And.intro (fun h32 => False.elim (by omega)) (And.intro (fun h32 => False.elim (by omega)) (And.intro (fun h32 => False.elim (by omega)) (And.intro (fun h32 => False.elim (by omega)) True.intro))))))))))))) (fun h32 => False.elim (by omega)))
  refine And.intro (zA_234 hS) (zrdR (v := some 239) (zR_234_7 hR) ?_)
  refine And.intro (zP_239 hS (by omega) (by omega)) (fun v174 e174 r174 => ?_)
  have f174 : v174 = o.2.1 := (e174.trans ((zxcj (by omega) rfl).trans ((congrArg (I 239) (by omega)).trans hO.1.2.1)))
  refine And.intro (zA_234 hS) ⟨_, sn_G_sp1.up (by decide), ?_⟩
  refine ⟨g, lim, (mNx x (x.2.2.2.2.1 + 1)), (v174 : Int), rfl, hS, hR, h3, (by omega), (zMs_n hM ((show _ = (((x.2.2.2.2.1) + 1) : Int) from rfl).trans (by omega)) (fun c j h => (zxcj (by omega) rfl))), hli, hlm, r174, ?_⟩
  intro I175o L175o p175hM2 p175bh51 p175bbfr p175bbbfrL
  refine And.intro (zRb rfl) (zbt rfl ?_)
  refine And.intro r19 (And.intro (And.intro (fun h183 => False.elim (by omega)) (And.intro (fun h183 => False.elim (by omega)) (And.intro (fun h183 => False.elim (by omega)) (And.intro (fun h183 => False.elim (by omega)) (And.intro (fun h183 => False.elim (by omega)) (And.intro (fun h183 => False.elim (by omega)) (And.intro (fun h183 => False.elim (by omega)) (And.intro (fun h183 => False.elim (by omega)) (And.intro (fun h183 => False.elim (by omega)) (And.intro (fun h183 => False.elim (by omega)) (And.intro (fun h183 => False.elim (by omega)) (And.intro (fun h183 => False.elim (by omega)) (And.intro (fun h183 => False.elim (by omega)) (And.intro (fun h183 => ?_) (And.intro (fun h183 => False.elim (by omega)) (And.intro (fun h183 => False.elim (by omega)) (And.intro (fun h183 => False.elim (by omega)) (And.intro (fun h183 => False.elim (by omega)) True.intro)))))))))))))))))) (fun h183 => False.elim (by omega)))
  refine And.intro (zA_234 hS) ⟨_, sn_G_acr.up (by decide), ?_⟩
  refine ⟨g, lim, (x.1, x.2.1 + 1, (mNx x (x.2.2.2.2.1 + 1)).2.2), i, kc, o, (600 * g + i), (show [zvr 234, zvi v19, zvi (600 * (g : Int) + x.2.2.2.2.1)] = _ from by rw [f19, hN]), hS, hR, ((p175bbfr 234 3 (by omega)).trans h3), (by omega), p175hM2, (zOr_fr hO (Nat.le_refl _) (fun c h1 h2 => ((p175bbfr _ _ (by omega)).trans (zxcj (by omega) rfl))) (fun c j h1 h2 => ((p175bbfr c j (by omega)).trans (zxcj (by omega) rfl)))), (p175bh51.trans f174), (by omega), (by omega), (by omega), hk1, ?_⟩
  intro I323o p323hM2 p323bfr
  refine hQ _ _ (zMs_x (mAc_r hk1).symm p323hM2) (fun c j h0 h1 h2 h3 h4 h5 h6 h7 h8 h9 h10 h11 h12 h13 h14 h15 h16 h17 h18 h19 h20 h21 h22 h23 h24 h25 h26 h27 h28 h29 => ((p323bfr c j h3 h19).trans ((p175bbfr c j h7).trans (zxcj h16 rfl)))) (fun c j h0 h1 h2 h3 h4 h5 h6 => ((p175bbbfrL c j h6).trans rfl)))
def T_G_wy15 : ZT := fun args I L R S Q => ∃ (g : Nat) (lim : Nat) (x : MsT) (i : Nat) (kc : Nat) (o : OrT) (u : Nat → Int), args = [zvr 234] ∧ (zSh S) ∧ (zRs R) ∧ (I 234 3 = g) ∧ (g ≤ 1) ∧ (zMs g lim x I L) ∧ (x.2.2.2.2.1 = i) ∧ (zOr g kc i o I) ∧ (kc ≤ 1000) ∧ (i ≤ 599) ∧ (o.1 = 15) ∧ (lim ≤ 300 ∧ x.2.1 ≤ lim) ∧ (x.2.1 < lim) ∧ ∀ (I' : ZI) (L' : ZI), (zMs g lim (mAc i o u (x.1, x.2.1 + 1, (mNx x (x.2.2.2.2.1 + 1)).2.2)) I' L') → (∀ c j : Nat, ¬ (c = 234 ∧ j = 28) → ¬ (c = 234 ∧ j = 30) → ¬ (c = 234 ∧ j = 36) → ¬ (c = 234 ∧ j = 38) → ¬ (c = 234 ∧ j = 40) → ¬ (c = 234 ∧ j = 42) → ¬ (c = 234 ∧ j = 44) → ¬ (c = 234 ∧ j = 51) → ¬ (c = 234 ∧ j = 66) → ¬ (c = 234 ∧ j = 53) → ¬ (c = 234 ∧ j = 55) → ¬ (c = 234 ∧ j = 46) → ¬ (c = 234 ∧ j = 47) → ¬ (c = 234 ∧ j = 48) → ¬ (c = 234 ∧ j = 49) → ¬ (c = 234 ∧ j = 50) → ¬ (c = 234 ∧ j = 52) → ¬ (c = 234 ∧ j = 45) → ¬ c = 254 → ¬ c = 255 → ¬ c = 256 → ¬ c = 257 → ¬ c = 258 → ¬ c = 259 → ¬ c = 260 → ¬ c = 261 → ¬ c = 262 → ¬ c = 263 → ¬ c = 264 → ¬ c = 266 → I' c j = I c j) → (∀ c j : Nat, ¬ c = 251 → ¬ c = 252 → ¬ c = 253 → ¬ c = 265 → ¬ c = 267 → ¬ (c = 234 ∧ j = 65) → ¬ (c = 234 ∧ j = 35) → L' c j = L c j) → Q none I' L' R S
theorem sn_G_wy15 : ZSnd 5 12 55 T_G_wy15 := ZSnd.of (zT12_55 4) (by
  rintro args I L R S Q hz ⟨g, lim, x, i, kc, o, u, rfl, hS, hR, h3, hg, hM, hN, hO, hkc, hi6, hk1, hli, hlm, hQ⟩
  obtain ⟨m1, m2, m3, m4, m5, m6, m7, ⟨m8, m8b⟩, m9, ⟨m10, m10b⟩, m11, m12, m13⟩ := id hM
  obtain ⟨hV1, ⟨hV2, hV2b⟩, hV3, ⟨hV4, hV4b⟩, hV5⟩ := id m1
  obtain ⟨hnx1, hnx2⟩ : r32 x.2.2.2.2.1 := by rw [← m7]; exact hz.1 234 52
  have m4a := m4.1
  have m4b := m4.2
  refine And.intro rfl ?_
  refine And.intro (zA_234 hS) (zrd (v := g) h3 ?_)
  refine And.intro (zA_234 hS) (zrd (v := (x.2.2.2.2.1)) m7 ?_)
  refine And.intro (zA_234 hS) (zrdR (v := some 238) (zR_234_6 hR) ?_)
  refine And.intro (zP_238 hS (by omega) (by omega)) (fun v19 e19 r19 => ?_)
  have f19 : v19 = 15 := (e19.trans ((congrArg (I 238) (by omega)).trans (hO.1.1.trans hk1)))
  refine And.intro (zA_234 hS) (zrd (v := (x.2.2.2.2.1)) m7 ?_)
  refine And.intro (zA_234 hS) ⟨_, (zWi (by omega)), ?_⟩
  refine And.intro r19 (And.intro (And.intro (fun h32 => False.elim (by omega)) (And.intro (fun h32 => False.elim (by omega)) (And.intro (fun h32 => False.elim (by omega)) (And.intro (fun h32 => False.elim (by omega)) (And.intro (fun h32 => False.elim (by omega)) (And.intro (fun h32 => False.elim (by omega)) (And.intro (fun h32 => False.elim (by omega)) (And.intro (fun h32 => ?_) (And.intro (fun h32 => False.elim (by omega)) (And.intro (fun h32 => False.elim (by omega)) (And.intro (fun h32 => False.elim (by omega)) (And.intro (fun h32 => False.elim (by omega)) (And.intro (fun h32 => False.elim (by omega)) True.intro))))))))))))) (fun h32 => False.elim (by omega)))
  refine And.intro (zA_234 hS) (zrdR (v := some 239) (zR_234_7 hR) ?_)
  refine And.intro (zP_239 hS (by omega) (by omega)) (fun v174 e174 r174 => ?_)
  have f174 : v174 = o.2.1 := (e174.trans ((zxcj (by omega) rfl).trans ((congrArg (I 239) (by omega)).trans hO.1.2.1)))
  refine And.intro (zA_234 hS) ⟨_, sn_G_sp1.up (by decide), ?_⟩
  refine ⟨g, lim, (mNx x (x.2.2.2.2.1 + 1)), (v174 : Int), rfl, hS, hR, h3, (by omega), (zMs_n hM ((show _ = (((x.2.2.2.2.1) + 1) : Int) from rfl).trans (by omega)) (fun c j h => (zxcj (by omega) rfl))), hli, hlm, r174, ?_⟩
  intro I175o L175o p175hM2 p175bh51 p175bbfr p175bbbfrL
  refine And.intro (zRb rfl) (zbt rfl ?_)
  refine And.intro r19 (And.intro (And.intro (fun h183 => False.elim (by omega)) (And.intro (fun h183 => False.elim (by omega)) (And.intro (fun h183 => False.elim (by omega)) (And.intro (fun h183 => False.elim (by omega)) (And.intro (fun h183 => False.elim (by omega)) (And.intro (fun h183 => False.elim (by omega)) (And.intro (fun h183 => False.elim (by omega)) (And.intro (fun h183 => False.elim (by omega)) (And.intro (fun h183 => False.elim (by omega)) (And.intro (fun h183 => False.elim (by omega)) (And.intro (fun h183 => False.elim (by omega)) (And.intro (fun h183 => False.elim (by omega)) (And.intro (fun h183 => False.elim (by omega)) (And.intro (fun h183 => False.elim (by omega)) (And.intro (fun h183 => ?_) (And.intro (fun h183 => False.elim (by omega)) (And.intro (fun h183 => False.elim (by omega)) (And.intro (fun h183 => False.elim (by omega)) True.intro)))))))))))))))))) (fun h183 => False.elim (by omega)))
  refine And.intro (zA_234 hS) ⟨_, sn_G_acq.up (by decide), ?_⟩
  refine ⟨g, lim, (x.1, x.2.1 + 1, (mNx x (x.2.2.2.2.1 + 1)).2.2), i, kc, o, (600 * g + i), (show [zvr 234, zvi v19, zvi (600 * (g : Int) + x.2.2.2.2.1)] = _ from by rw [f19, hN]), hS, hR, ((p175bbfr 234 3 (by omega)).trans h3), (by omega), p175hM2, (zOr_fr hO (Nat.le_refl _) (fun c h1 h2 => ((p175bbfr _ _ (by omega)).trans (zxcj (by omega) rfl))) (fun c j h1 h2 => ((p175bbfr c j (by omega)).trans (zxcj (by omega) rfl)))), (p175bh51.trans f174), (by omega), (by omega), (by omega), hk1, ?_⟩
  intro I323o L323o p323hM2 p323bfr p323bbfrL
  refine hQ _ _ (zMs_x (mAc_q hk1).symm p323hM2) (fun c j h0 h1 h2 h3 h4 h5 h6 h7 h8 h9 h10 h11 h12 h13 h14 h15 h16 h17 h18 h19 h20 h21 h22 h23 h24 h25 h26 h27 h28 h29 => ((p323bfr c j h0 h1 h6 h8 h9 h10 h11 h12 h13 h14 h15 h16 h23 h26 h27 h28 h4 h20).trans ((p175bbfr c j h7).trans (zxcj h16 rfl)))) (fun c j h0 h1 h2 h3 h4 h5 h6 => ((p323bbfrL c j h0 h1 h2 h4 h5).trans ((p175bbbfrL c j h6).trans rfl))))
def T_G_wy16 : ZT := fun args I L R S Q => ∃ (g : Nat) (lim : Nat) (x : MsT) (i : Nat) (kc : Nat) (o : OrT) (u : Nat → Int), args = [zvr 234] ∧ (zSh S) ∧ (zRs R) ∧ (I 234 3 = g) ∧ (g ≤ 1) ∧ (zMs g lim x I L) ∧ (x.2.2.2.2.1 = i) ∧ (zOr g kc i o I) ∧ (kc ≤ 1000) ∧ (i ≤ 599) ∧ (o.1 = 16) ∧ (lim ≤ 300 ∧ x.2.1 ≤ lim) ∧ (x.2.1 < lim) ∧ ∀ (I' : ZI) (L' : ZI), (zMs g lim (mAc i o u (x.1, x.2.1 + 1, (mNx x (x.2.2.2.2.1 + 1)).2.2)) I' L') → (∀ c j : Nat, ¬ (c = 234 ∧ j = 28) → ¬ (c = 234 ∧ j = 30) → ¬ (c = 234 ∧ j = 36) → ¬ (c = 234 ∧ j = 38) → ¬ (c = 234 ∧ j = 40) → ¬ (c = 234 ∧ j = 42) → ¬ (c = 234 ∧ j = 44) → ¬ (c = 234 ∧ j = 51) → ¬ (c = 234 ∧ j = 66) → ¬ (c = 234 ∧ j = 53) → ¬ (c = 234 ∧ j = 55) → ¬ (c = 234 ∧ j = 46) → ¬ (c = 234 ∧ j = 47) → ¬ (c = 234 ∧ j = 48) → ¬ (c = 234 ∧ j = 49) → ¬ (c = 234 ∧ j = 50) → ¬ (c = 234 ∧ j = 52) → ¬ (c = 234 ∧ j = 45) → ¬ c = 254 → ¬ c = 255 → ¬ c = 256 → ¬ c = 257 → ¬ c = 258 → ¬ c = 259 → ¬ c = 260 → ¬ c = 261 → ¬ c = 262 → ¬ c = 263 → ¬ c = 264 → ¬ c = 266 → I' c j = I c j) → (∀ c j : Nat, ¬ c = 251 → ¬ c = 252 → ¬ c = 253 → ¬ c = 265 → ¬ c = 267 → ¬ (c = 234 ∧ j = 65) → ¬ (c = 234 ∧ j = 35) → L' c j = L c j) → Q none I' L' R S
theorem sn_G_wy16 : ZSnd 5 12 55 T_G_wy16 := ZSnd.of (zT12_55 4) (by
  rintro args I L R S Q hz ⟨g, lim, x, i, kc, o, u, rfl, hS, hR, h3, hg, hM, hN, hO, hkc, hi6, hk1, hli, hlm, hQ⟩
  obtain ⟨m1, m2, m3, m4, m5, m6, m7, ⟨m8, m8b⟩, m9, ⟨m10, m10b⟩, m11, m12, m13⟩ := id hM
  obtain ⟨hV1, ⟨hV2, hV2b⟩, hV3, ⟨hV4, hV4b⟩, hV5⟩ := id m1
  obtain ⟨hnx1, hnx2⟩ : r32 x.2.2.2.2.1 := by rw [← m7]; exact hz.1 234 52
  have m4a := m4.1
  have m4b := m4.2
  refine And.intro rfl ?_
  refine And.intro (zA_234 hS) (zrd (v := g) h3 ?_)
  refine And.intro (zA_234 hS) (zrd (v := (x.2.2.2.2.1)) m7 ?_)
  refine And.intro (zA_234 hS) (zrdR (v := some 238) (zR_234_6 hR) ?_)
  refine And.intro (zP_238 hS (by omega) (by omega)) (fun v19 e19 r19 => ?_)
  have f19 : v19 = 16 := (e19.trans ((congrArg (I 238) (by omega)).trans (hO.1.1.trans hk1)))
  refine And.intro (zA_234 hS) (zrd (v := (x.2.2.2.2.1)) m7 ?_)
  refine And.intro (zA_234 hS) ⟨_, (zWi (by omega)), ?_⟩
  refine And.intro r19 (And.intro (And.intro (fun h32 => False.elim (by omega)) (And.intro (fun h32 => False.elim (by omega)) (And.intro (fun h32 => False.elim (by omega)) (And.intro (fun h32 => False.elim (by omega)) (And.intro (fun h32 => False.elim (by omega)) (And.intro (fun h32 => False.elim (by omega)) (And.intro (fun h32 => False.elim (by omega)) (And.intro (fun h32 => False.elim (by omega)) (And.intro (fun h32 => ?_) (And.intro (fun h32 => False.elim (by omega)) (And.intro (fun h32 => False.elim (by omega)) (And.intro (fun h32 => False.elim (by omega)) (And.intro (fun h32 => False.elim (by omega)) True.intro))))))))))))) (fun h32 => False.elim (by omega)))
  refine And.intro (zA_234 hS) (zrdR (v := some 239) (zR_234_7 hR) ?_)
  refine And.intro (zP_239 hS (by omega) (by omega)) (fun v174 e174 r174 => ?_)
  have f174 : v174 = o.2.1 := (e174.trans ((zxcj (by omega) rfl).trans ((congrArg (I 239) (by omega)).trans hO.1.2.1)))
  refine And.intro (zA_234 hS) ⟨_, sn_G_sp1.up (by decide), ?_⟩
  refine ⟨g, lim, (mNx x (x.2.2.2.2.1 + 1)), (v174 : Int), rfl, hS, hR, h3, (by omega), (zMs_n hM ((show _ = (((x.2.2.2.2.1) + 1) : Int) from rfl).trans (by omega)) (fun c j h => (zxcj (by omega) rfl))), hli, hlm, r174, ?_⟩
  intro I175o L175o p175hM2 p175bh51 p175bbfr p175bbbfrL
  refine And.intro (zRb rfl) (zbt rfl ?_)
  refine And.intro r19 (And.intro (And.intro (fun h183 => False.elim (by omega)) (And.intro (fun h183 => False.elim (by omega)) (And.intro (fun h183 => False.elim (by omega)) (And.intro (fun h183 => False.elim (by omega)) (And.intro (fun h183 => False.elim (by omega)) (And.intro (fun h183 => False.elim (by omega)) (And.intro (fun h183 => False.elim (by omega)) (And.intro (fun h183 => False.elim (by omega)) (And.intro (fun h183 => False.elim (by omega)) (And.intro (fun h183 => False.elim (by omega)) (And.intro (fun h183 => False.elim (by omega)) (And.intro (fun h183 => False.elim (by omega)) (And.intro (fun h183 => False.elim (by omega)) (And.intro (fun h183 => False.elim (by omega)) (And.intro (fun h183 => False.elim (by omega)) (And.intro (fun h183 => ?_) (And.intro (fun h183 => False.elim (by omega)) (And.intro (fun h183 => False.elim (by omega)) True.intro)))))))))))))))))) (fun h183 => False.elim (by omega)))
  refine And.intro (zA_234 hS) ⟨_, sn_G_ac16.up (by decide), ?_⟩
  refine ⟨g, lim, (x.1, x.2.1 + 1, (mNx x (x.2.2.2.2.1 + 1)).2.2), i, kc, o, (600 * g + i), (show [zvr 234, zvi v19, zvi (600 * (g : Int) + x.2.2.2.2.1)] = _ from by rw [f19, hN]), hS, hR, ((p175bbfr 234 3 (by omega)).trans h3), (by omega), p175hM2, (zOr_fr hO (Nat.le_refl _) (fun c h1 h2 => ((p175bbfr _ _ (by omega)).trans (zxcj (by omega) rfl))) (fun c j h1 h2 => ((p175bbfr c j (by omega)).trans (zxcj (by omega) rfl)))), (p175bh51.trans f174), (by omega), (by omega), (by omega), hk1, ?_⟩
  intro I323o L323o p323hM2 p323bfr p323bbfrL
  refine hQ _ _ (zMs_x (mAw_16 hk1).symm p323hM2) (fun c j h0 h1 h2 h3 h4 h5 h6 h7 h8 h9 h10 h11 h12 h13 h14 h15 h16 h17 h18 h19 h20 h21 h22 h23 h24 h25 h26 h27 h28 h29 => ((p323bfr c j h0 h1 h6 h8 h9 h10 h11 h12 h13 h14 h15 h16 h23 h26 h27 h28).trans ((p175bbfr c j h7).trans (zxcj h16 rfl)))) (fun c j h0 h1 h2 h3 h4 h5 h6 => ((p323bbfrL c j h0 h1 h2 h4 h5).trans ((p175bbbfrL c j h6).trans rfl))))
def T_G_wy18 : ZT := fun args I L R S Q => ∃ (g : Nat) (lim : Nat) (x : MsT) (i : Nat) (kc : Nat) (o : OrT) (u : Nat → Int), args = [zvr 234] ∧ (zSh S) ∧ (zRs R) ∧ (I 234 3 = g) ∧ (g ≤ 1) ∧ (zMs g lim x I L) ∧ (x.2.2.2.2.1 = i) ∧ (zOr g kc i o I) ∧ (kc ≤ 1000) ∧ (i ≤ 599) ∧ (o.1 = 18) ∧ (lim ≤ 300 ∧ x.2.1 ≤ lim) ∧ (x.2.1 < lim) ∧ (0 ≤ o.2.2.1 ∧ o.2.2.1 < 26) ∧ (∀ f : Nat, f < 26 → I 244 (26 * g + f) = u f) ∧ ∀ (I' : ZI) (L' : ZI), (zMs g lim (mAc i o u (x.1, x.2.1 + 1, (mNx x (x.2.2.2.2.1 + 1)).2.2)) I' L') → (∀ c j : Nat, ¬ (c = 234 ∧ j = 28) → ¬ (c = 234 ∧ j = 30) → ¬ (c = 234 ∧ j = 36) → ¬ (c = 234 ∧ j = 38) → ¬ (c = 234 ∧ j = 40) → ¬ (c = 234 ∧ j = 42) → ¬ (c = 234 ∧ j = 44) → ¬ (c = 234 ∧ j = 51) → ¬ (c = 234 ∧ j = 66) → ¬ (c = 234 ∧ j = 53) → ¬ (c = 234 ∧ j = 55) → ¬ (c = 234 ∧ j = 46) → ¬ (c = 234 ∧ j = 47) → ¬ (c = 234 ∧ j = 48) → ¬ (c = 234 ∧ j = 49) → ¬ (c = 234 ∧ j = 50) → ¬ (c = 234 ∧ j = 52) → ¬ (c = 234 ∧ j = 45) → ¬ c = 254 → ¬ c = 255 → ¬ c = 256 → ¬ c = 257 → ¬ c = 258 → ¬ c = 259 → ¬ c = 260 → ¬ c = 261 → ¬ c = 262 → ¬ c = 263 → ¬ c = 264 → ¬ c = 266 → I' c j = I c j) → (∀ c j : Nat, ¬ c = 251 → ¬ c = 252 → ¬ c = 253 → ¬ c = 265 → ¬ c = 267 → ¬ (c = 234 ∧ j = 65) → ¬ (c = 234 ∧ j = 35) → L' c j = L c j) → Q none I' L' R S
theorem sn_G_wy18 : ZSnd 5 12 55 T_G_wy18 := ZSnd.of (zT12_55 4) (by
  rintro args I L R S Q hz ⟨g, lim, x, i, kc, o, u, rfl, hS, hR, h3, hg, hM, hN, hO, hkc, hi6, hk1, hli, hlm, hgv, hFu, hQ⟩
  obtain ⟨m1, m2, m3, m4, m5, m6, m7, ⟨m8, m8b⟩, m9, ⟨m10, m10b⟩, m11, m12, m13⟩ := id hM
  obtain ⟨hV1, ⟨hV2, hV2b⟩, hV3, ⟨hV4, hV4b⟩, hV5⟩ := id m1
  obtain ⟨hnx1, hnx2⟩ : r32 x.2.2.2.2.1 := by rw [← m7]; exact hz.1 234 52
  have m4a := m4.1
  have m4b := m4.2
  refine And.intro rfl ?_
  refine And.intro (zA_234 hS) (zrd (v := g) h3 ?_)
  refine And.intro (zA_234 hS) (zrd (v := (x.2.2.2.2.1)) m7 ?_)
  refine And.intro (zA_234 hS) (zrdR (v := some 238) (zR_234_6 hR) ?_)
  refine And.intro (zP_238 hS (by omega) (by omega)) (fun v19 e19 r19 => ?_)
  have f19 : v19 = 18 := (e19.trans ((congrArg (I 238) (by omega)).trans (hO.1.1.trans hk1)))
  refine And.intro (zA_234 hS) (zrd (v := (x.2.2.2.2.1)) m7 ?_)
  refine And.intro (zA_234 hS) ⟨_, (zWi (by omega)), ?_⟩
  refine And.intro r19 (And.intro (And.intro (fun h32 => False.elim (by omega)) (And.intro (fun h32 => False.elim (by omega)) (And.intro (fun h32 => False.elim (by omega)) (And.intro (fun h32 => False.elim (by omega)) (And.intro (fun h32 => False.elim (by omega)) (And.intro (fun h32 => False.elim (by omega)) (And.intro (fun h32 => False.elim (by omega)) (And.intro (fun h32 => False.elim (by omega)) (And.intro (fun h32 => False.elim (by omega)) (And.intro (fun h32 => False.elim (by omega)) (And.intro (fun h32 => ?_) (And.intro (fun h32 => False.elim (by omega)) (And.intro (fun h32 => False.elim (by omega)) True.intro))))))))))))) (fun h32 => False.elim (by omega)))
  refine And.intro (zA_234 hS) (zrdR (v := some 239) (zR_234_7 hR) ?_)
  refine And.intro (zP_239 hS (by omega) (by omega)) (fun v174 e174 r174 => ?_)
  have f174 : v174 = o.2.1 := (e174.trans ((zxcj (by omega) rfl).trans ((congrArg (I 239) (by omega)).trans hO.1.2.1)))
  refine And.intro (zA_234 hS) ⟨_, sn_G_sp1.up (by decide), ?_⟩
  refine ⟨g, lim, (mNx x (x.2.2.2.2.1 + 1)), (v174 : Int), rfl, hS, hR, h3, (by omega), (zMs_n hM ((show _ = (((x.2.2.2.2.1) + 1) : Int) from rfl).trans (by omega)) (fun c j h => (zxcj (by omega) rfl))), hli, hlm, r174, ?_⟩
  intro I175o L175o p175hM2 p175bh51 p175bbfr p175bbbfrL
  refine And.intro (zRb rfl) (zbt rfl ?_)
  refine And.intro r19 (And.intro (And.intro (fun h183 => False.elim (by omega)) (And.intro (fun h183 => False.elim (by omega)) (And.intro (fun h183 => False.elim (by omega)) (And.intro (fun h183 => False.elim (by omega)) (And.intro (fun h183 => False.elim (by omega)) (And.intro (fun h183 => False.elim (by omega)) (And.intro (fun h183 => False.elim (by omega)) (And.intro (fun h183 => False.elim (by omega)) (And.intro (fun h183 => False.elim (by omega)) (And.intro (fun h183 => False.elim (by omega)) (And.intro (fun h183 => False.elim (by omega)) (And.intro (fun h183 => False.elim (by omega)) (And.intro (fun h183 => False.elim (by omega)) (And.intro (fun h183 => False.elim (by omega)) (And.intro (fun h183 => False.elim (by omega)) (And.intro (fun h183 => False.elim (by omega)) (And.intro (fun h183 => False.elim (by omega)) (And.intro (fun h183 => ?_) True.intro)))))))))))))))))) (fun h183 => False.elim (by omega)))
  refine And.intro (zA_234 hS) (zrdR (v := some 240) (zR_234_8 hR) ?_)
  refine And.intro (zP_240 hS (by omega) (by omega)) (fun v315 e315 r315 => ?_)
  have f315 : v315 = o.2.2.1 := (e315.trans (((p175bbfr _ _ (by omega)).trans (zxcj (by omega) rfl)).trans ((congrArg (I 240) (by omega)).trans hO.1.2.2.1)))
  refine And.intro (zA_234 hS) ⟨_, sn_G_cal.up (by decide), ?_⟩
  refine ⟨g, lim, (x.1, x.2.1 + 1, (mNx x (x.2.2.2.2.1 + 1)).2.2), o.2.2.1.toNat, o.2.1, (u o.2.2.1.toNat), (show [zvr 234, zvi v315] = _ from by rw [f315, Int.toNat_of_nonneg hgv.1]), hS, hR, ((p175bbfr 234 3 (by omega)).trans h3), (by omega), p175hM2, (p175bh51.trans f174), (by omega), (((p175bbfr _ _ (by omega)).trans (zxcj (by omega) rfl)).trans (hFu _ (by omega))), ?_⟩
  intro I316o L316o p316hM2 p316bfr p316bbfrL
  refine hQ _ _ (zMs_x (mAw_18 hk1).symm p316hM2) (fun c j h0 h1 h2 h3 h4 h5 h6 h7 h8 h9 h10 h11 h12 h13 h14 h15 h16 h17 h18 h19 h20 h21 h22 h23 h24 h25 h26 h27 h28 h29 => ((p316bfr c j h0 h1 h6 h8 h9 h10 h11 h12 h13 h14 h15 h16 h23 h26 h27 h28 h22).trans ((p175bbfr c j h7).trans (zxcj h16 rfl)))) (fun c j h0 h1 h2 h3 h4 h5 h6 => ((p316bbfrL c j h0).trans ((p175bbbfrL c j h6).trans rfl))))
