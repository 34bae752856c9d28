/-! ty -/
def T_G_cal : ZT := fun args I L R S Q => ∃ (g : Nat) (lim : Nat) (x : MsT) (f : Nat) (pl : Int) (w : Int), args = [zvr 234, zvi f] ∧ (zSh S) ∧ (zRs R) ∧ (I 234 3 = g) ∧ (g ≤ 1) ∧ (zMs g lim x I L) ∧ (I 234 51 = pl) ∧ (f < 26) ∧ (I 244 (26 * g + f) = w) ∧ ∀ (I' : ZI) (L' : ZI), (zMs g lim (if w = -1 then mRa 6 pl 0 x else if x.2.2.2.2.2.1 = 2 then mRa 5 pl 0 x else (x.1, x.2.1, x.2.2.1, x.2.2.2.1, w, x.2.2.2.2.2.1 + 1, upF x.2.2.2.2.2.2.1 x.2.2.2.2.2.1 x.2.2.2.2.1, x.2.2.2.2.2.2.2)) I' L') → (∀ c j : Nat, ¬ (c = 234 ∧ j = 28) → ¬ (c = 234 ∧ j = 30) → ¬ (c = 234 ∧ j = 44) → ¬ (c = 234 ∧ j = 66) → ¬ (c = 234 ∧ j = 53) → ¬ (c = 234 ∧ j = 55) → ¬ (c = 234 ∧ j = 46) → ¬ (c = 234 ∧ j = 47) → ¬ (c = 234 ∧ j = 48) → ¬ (c = 234 ∧ j = 49) → ¬ (c = 234 ∧ j = 50) → ¬ (c = 234 ∧ j = 52) → ¬ c = 259 → ¬ c = 262 → ¬ c = 263 → ¬ c = 264 → ¬ c = 258 → I' c j = I c j) → (∀ c j : Nat, ¬ c = 251 → L' c j = L c j) → Q none I' L' R S
theorem sn_G_cal : ZSnd 3 12 7 T_G_cal := ZSnd.of (zT12_7 2) (by
  rintro args I L R S Q hz ⟨g, lim, x, f, pl, w, rfl, hS, hR, h3, hg, hM, h51, hf, hu, hQ⟩
  obtain ⟨m1, m2, m3, m4, m5, m6, m7, ⟨m8, m8b⟩, m9, ⟨m10, m10b⟩, m11, m12, m13⟩ := id hM
  obtain ⟨hV1, ⟨hV2, hV2b⟩, hV3, ⟨hV4, hV4b⟩, hV5⟩ := id m1
  obtain ⟨hnx1, hnx2⟩ : r32 x.2.2.2.2.1 := by rw [← m7]; exact hz.1 234 52
  have m4a := m4.1
  have m4b := m4.2
  have hplr : r32 pl := by rw [← h51]; exact hz.1 234 51
  have hw_ : r32 w := by rw [← hu]; exact hz.1 244 _
  refine And.intro rfl ?_
  refine And.intro (zA_234 hS) (zrdR (v := some 244) (zR_234_12 hR) ?_)
  refine And.intro (zA_234 hS) (zrd (v := g) h3 ?_)
  refine And.intro (zP_244 hS (by omega) (by omega)) (fun v13 e13 r13 => ?_)
  have f13 : v13 = w := (e13.trans ((congrArg (I 244) (by omega)).trans hu))
  refine And.intro ⟨r13, (zRb rfl)⟩ ⟨fun h17 => ?_, fun h17 => ?_⟩
  · refine And.intro (zA_234 hS) (zrd (v := (x.2.2.2.2.2.1)) m8 ?_)
    refine And.intro ⟨(by omega), (zRb rfl)⟩ ⟨fun h37 => ?_, fun h37 => ?_⟩
    · refine And.intro (zA_234 hS) (zrdR (v := some 258) (zR_234_54 hR) ?_)
      refine And.intro (zA_234 hS) (zrd (v := (x.2.2.2.2.2.1)) m8 ?_)
      refine And.intro (zA_234 hS) (zrd (v := (x.2.2.2.2.1)) m7 ?_)
      refine And.intro ⟨(zx0 rfl), (zP_258 hS (by omega) (by omega))⟩ ⟨_, (zWi (by omega)), ?_⟩
      refine And.intro (zA_234 hS) (zrd (v := (x.2.2.2.2.2.1)) m8 ?_)
      refine And.intro (zA_234 hS) ⟨_, (zWi (by omega)), ?_⟩
      refine And.intro (zA_234 hS) ⟨_, (zWi r13), ?_⟩
      refine hQ _ _ (zMs_x ((if_neg (by omega)).trans (if_neg (by omega))).symm (zMs_c hM (fun c j h => (zxcj (by omega) (zxcj (by omega) (zxcj (by omega) rfl)))) (fun c j h => rfl) (rfl.trans m4.1) ((zxcj (by omega) (zxcj (by omega) (zxcj (by omega) rfl))).trans m5.1) ((zxcj (by omega) (zxcj (by omega) (zxcj (by omega) rfl))).trans m5.2) ((show _ = (v13 : Int) from rfl).trans (by omega)) ⟨(show _ = (((x.2.2.2.2.2.1) + 1) : Int) from rfl).trans (by omega), by omega⟩ (fun i hi => by
unfold upF
by_cases e : i = x.2.2.2.2.2.1
· rw [if_pos e, e]; exact zxu (by omega) (zxu (by omega) (zxe' (by omega)))
· rw [if_neg e]; exact ((zxu (by omega) (zxu (by omega) (zxs (by omega) rfl)))).trans (m9 i hi)) ⟨((zxcj (by omega) (zxcj (by omega) (zxcj (by omega) rfl))).trans m10), m10b⟩ (zHs_fr m11 (fun c j h1 h2 h3 => (zxcj (by omega) (zxcj (by omega) (zxcj (by omega) rfl)))) (fun j hj => rfl)) (zc42 (zxcj (by omega) (zxcj (by omega) (zxcj (by omega) rfl))) m12))) (fun c j h0 h1 h2 h3 h4 h5 h6 h7 h8 h9 h10 h11 h12 h13 h14 h15 h16 => (zxcj h11 (zxcj h4 (zxu h16 rfl)))) (fun c j h0 => rfl)
    · refine And.intro (zA_234 hS) (zrd (v := pl) h51 ?_)
      refine And.intro (zA_234 hS) ⟨_, sn_G_rai.up (by decide), ?_⟩
      refine ⟨x.2.2.2.2.2.2.2, x.1.1, x.2.2.2.2.2.1, (5 : Int), (pl : Int), (0 : Int), rfl, hS, hR, (Eq.trans (b := ((x.2.2.2.2.2.2.2.length) : Int)) m10 (by omega)), (by omega), m11, m1, m8, m8b, (by omega), hplr, (by omega), ?_⟩
      intro I47o L47o p47hR p47bg55 p47bbg53 p47bbbhcl2 p47bbbbfr p47bbbbbfrL
      refine hQ _ _ (zMs_x ((if_neg (by omega)).trans (if_pos (by omega))).symm (zMs_ra hM p47hR p47bg55 p47bbg53 p47bbbhcl2 (fun c j h => p47bbbbfr c j (by omega) (by omega) (by omega) (by omega) (by omega) (by omega) (by omega) (by omega) (by omega) (by omega) (by omega) (by omega) (by omega) (by omega)) (fun c j h => p47bbbbbfrL c j (by omega)))) (fun c j h0 h1 h2 h3 h4 h5 h6 h7 h8 h9 h10 h11 h12 h13 h14 h15 h16 => ((p47bbbbfr c j h0 h2 h4 h5 h6 h7 h8 h9 h10 h11 h12 h13 h14 h15).trans rfl)) (fun c j h0 => ((p47bbbbbfrL c j h0).trans rfl))
  · refine And.intro (zA_234 hS) (zrd (v := pl) h51 ?_)
    refine And.intro (zA_234 hS) ⟨_, sn_G_rai.up (by decide), ?_⟩
    refine ⟨x.2.2.2.2.2.2.2, x.1.1, x.2.2.2.2.2.1, (6 : Int), (pl : Int), (0 : Int), rfl, hS, hR, (Eq.trans (b := ((x.2.2.2.2.2.2.2.length) : Int)) m10 (by omega)), (by omega), m11, m1, m8, m8b, (by omega), hplr, (by omega), ?_⟩
    intro I28o L28o p28hR p28bg55 p28bbg53 p28bbbhcl2 p28bbbbfr p28bbbbbfrL
    refine hQ _ _ (zMs_x (if_pos (by omega)).symm (zMs_ra hM p28hR p28bg55 p28bbg53 p28bbbhcl2 (fun c j h => p28bbbbfr c j (by omega) (by omega) (by omega) (by omega) (by omega) (by omega) (by omega) (by omega) (by omega) (by omega) (by omega) (by omega) (by omega) (by omega)) (fun c j h => p28bbbbbfrL c j (by omega)))) (fun c j h0 h1 h2 h3 h4 h5 h6 h7 h8 h9 h10 h11 h12 h13 h14 h15 h16 => ((p28bbbbfr c j h0 h2 h4 h5 h6 h7 h8 h9 h10 h11 h12 h13 h14 h15).trans rfl)) (fun c j h0 => ((p28bbbbbfrL c j h0).trans rfl)))
def T_G_sp0 : ZT := fun args I L R S Q => ∃ (g : Nat) (lim : Nat) (x : MsT) (p : Int), args = [zvr 234, zvi p] ∧ (zSh S) ∧ (zRs R) ∧ (I 234 3 = g) ∧ (g ≤ 1) ∧ (zMs g lim x I L) ∧ (lim ≤ 300 ∧ x.2.1 ≤ lim) ∧ (x.2.1 = lim) ∧ ∀ (I' : ZI), (zMs g lim (x.1, x.2.1, (1, 2), x.2.2.2) I' L) → (∀ c j : Nat, ¬ (c = 234 ∧ j = 49) → ¬ (c = 234 ∧ j = 50) → I' c j = I c j) → Q (some (zvi (0))) I' L R S
theorem sn_G_sp0 : ZSnd 1 12 50 T_G_sp0 := ZSnd.of (zT12_50 0) (by
  rintro args I L R S Q hz ⟨g, lim, x, p, rfl, hS, hR, h3, hg, hM, hli, hlm, hQ⟩
  obtain ⟨m1, m2, m3, m4, m5, m6, m7, ⟨m8, m8b⟩, m9, ⟨m10, m10b⟩, m11, m12, m13⟩ := id hM
  obtain ⟨hV1, ⟨hV2, hV2b⟩, hV3, ⟨hV4, hV4b⟩, hV5⟩ := id m1
  obtain ⟨hnx1, hnx2⟩ : r32 x.2.2.2.2.1 := by rw [← m7]; exact hz.1 234 52
  have m4a := m4.1
  have m4b := m4.2
  refine And.intro rfl ?_
  refine And.intro (zA_234 hS) (zrdL (v := (x.2.1)) m4a ?_)
  refine And.intro (zA_234 hS) (zrdL (v := lim) m4b ?_)
  refine ⟨_, _, ⟨zW6i (by omega), zW6i (by omega)⟩, fun z8 c8 => ?_⟩
  refine And.intro c8.2.2 ⟨(fun h9 => False.elim (by omega)), fun h9 => ?_⟩
  have k9 : (x.2.1) = lim := by omega
  clear h9 c8
  refine And.intro (zA_234 hS) ⟨_, (zWi (zRb rfl)), ?_⟩
  refine And.intro ⟨(zA_234 hS), (Or.inr rfl)⟩ ?_
  refine And.intro (Or.inl rfl) ?_
  refine hQ _ (zMs_c hM (fun c j h => (zxcj (by omega) (zxcj (by omega) rfl))) (fun c j h => rfl) m4.1 (show _ = (1 : Int) from rfl) (show _ = (2 : Int) from rfl) ((zxcj (by omega) (zxcj (by omega) rfl)).trans m7) ⟨((zxcj (by omega) (zxcj (by omega) rfl)).trans m8), m8b⟩ (fun i hi => ((zxcj (by omega) (zxcj (by omega) rfl)).trans (m9 i hi))) ⟨((zxcj (by omega) (zxcj (by omega) rfl)).trans m10), m10b⟩ (zHs_fr m11 (fun c j h1 h2 h3 => (zxcj (by omega) (zxcj (by omega) rfl))) (fun j hj => rfl)) (zc42 (zxcj (by omega) (zxcj (by omega) rfl)) m12)) (fun c j h0 h1 => (zxcj h0 (zxcj h1 rfl))))
def T_G_sp1 : ZT := fun args I L R S Q => ∃ (g : Nat) (lim : Nat) (x : MsT) (p : Int), args = [zvr 234, zvi p] ∧ (zSh S) ∧ (zRs R) ∧ (I 234 3 = g) ∧ (g ≤ 1) ∧ (zMs g lim x I L) ∧ (lim ≤ 300 ∧ x.2.1 ≤ lim) ∧ (x.2.1 < lim) ∧ (r32 p) ∧ ∀ (I' : ZI) (L' : ZI), (zMs g lim (x.1, x.2.1 + 1, x.2.2) I' L') → (I' 234 51 = p) → (∀ c j : Nat, ¬ (c = 234 ∧ j = 51) → I' c j = I c j) → (∀ c j : Nat, ¬ (c = 234 ∧ j = 35) → L' c j = L c j) → Q (some (zvi (1))) I' L' R S
theorem sn_G_sp1 : ZSnd 1 12 50 T_G_sp1 := ZSnd.of (zT12_50 0) (by
  rintro args I L R S Q hz ⟨g, lim, x, p, rfl, hS, hR, h3, hg, hM, hli, hlm, hp, hQ⟩
  obtain ⟨m1, m2, m3, m4, m5, m6, m7, ⟨m8, m8b⟩, m9, ⟨m10, m10b⟩, m11, m12, m13⟩ := id hM
  obtain ⟨hV1, ⟨hV2, hV2b⟩, hV3, ⟨hV4, hV4b⟩, hV5⟩ := id m1
  obtain ⟨hnx1, hnx2⟩ : r32 x.2.2.2.2.1 := by rw [← m7]; exact hz.1 234 52
  have m4a := m4.1
  have m4b := m4.2
  obtain ⟨hp1, hp2⟩ : r32 p := hp
  refine And.intro rfl ?_
  refine And.intro (zA_234 hS) (zrdL (v := (x.2.1)) m4a ?_)
  refine And.intro (zA_234 hS) (zrdL (v := lim) m4b ?_)
  refine ⟨_, _, ⟨zW6i (by omega), zW6i (by omega)⟩, fun z8 c8 => ?_⟩
  refine And.intro c8.2.2 ⟨fun h9 => ?_, (fun h9 => False.elim (by omega))⟩
  have k9 : (x.2.1) ≠ lim := by omega
  clear h9 c8
  refine And.intro (zA_234 hS) (zrdL (v := (x.2.1)) m4a ?_)
  refine And.intro (zA_234 hS) ⟨_, zW6i (by omega), ?_⟩
  refine And.intro (zA_234 hS) ⟨_, (zWi (by omega)), ?_⟩
  refine And.intro (Or.inr rfl) ?_
  refine hQ _ _ (zMs_c hM (fun c j h => (zxcj (by omega) rfl)) (fun c j h => (zxcj (by omega) rfl)) (zxe.trans (by omega)) ((zxcj (by omega) rfl).trans m5.1) ((zxcj (by omega) rfl).trans m5.2) ((zxcj (by omega) rfl).trans m7) ⟨((zxcj (by omega) rfl).trans m8), m8b⟩ (fun i hi => ((zxcj (by omega) rfl).trans (m9 i hi))) ⟨((zxcj (by omega) rfl).trans m10), m10b⟩ (zHs_fr m11 (fun c j h1 h2 h3 => (zxcj (by omega) rfl)) (fun j hj => (zxcj (by omega) rfl))) (zc42 (zxcj (by omega) rfl) m12)) rfl (fun c j h0 => (zxcj h0 rfl)) (fun c j h0 => (zxcj h0 rfl)))
def T_G_cen : ZT := fun args I L R S Q => ∃ (g : Nat) (lim : Nat) (x : MsT), args = [zvr 234] ∧ (zSh S) ∧ (zRs R) ∧ (I 234 3 = g) ∧ (g ≤ 1) ∧ (zMs g lim x I L) ∧ (1 ≤ x.2.2.2.2.2.2.2.length) ∧ ∀ (I' : ZI) (L' : ZI), (zMs g lim (if (hdH x.2.2.2.2.2.2.2).2.2.2.1 = 0 then (x.1, x.2.1, x.2.2.1, x.2.2.2.1, x.2.2.2.2.1, x.2.2.2.2.2.1, x.2.2.2.2.2.2.1, x.2.2.2.2.2.2.2.drop 1) else mRa (hdH x.2.2.2.2.2.2.2).2.2.2.1 (hdH x.2.2.2.2.2.2.2).2.2.2.2.1 (hdH x.2.2.2.2.2.2.2).2.2.2.2.2.1 (x.1, x.2.1, x.2.2.1, x.2.2.2.1, x.2.2.2.2.1, x.2.2.2.2.2.1, x.2.2.2.2.2.2.1, x.2.2.2.2.2.2.2.drop 1)) I' L') → (∀ c j : Nat, ¬ (c = 234 ∧ j = 28) → ¬ (c = 234 ∧ j = 30) → ¬ (c = 234 ∧ j = 44) → ¬ (c = 234 ∧ j = 66) → ¬ (c = 234 ∧ j = 53) → ¬ (c = 234 ∧ j = 55) → ¬ (c = 234 ∧ j = 46) → ¬ (c = 234 ∧ j = 47) → ¬ (c = 234 ∧ j = 48) → ¬ (c = 234 ∧ j = 49) → ¬ (c = 234 ∧ j = 50) → ¬ (c = 234 ∧ j = 52) → ¬ c = 259 → ¬ c = 262 → ¬ c = 263 → ¬ c = 264 → I' c j = I c j) → (∀ c j : Nat, ¬ c = 251 → L' c j = L c j) → Q none I' L' R S
theorem sn_G_cen : ZSnd 3 12 9 T_G_cen := ZSnd.of (zT12_9 2) (by
  rintro args I L R S Q hz ⟨g, lim, x, rfl, hS, hR, h3, hg, hM, h1, hQ⟩
  obtain ⟨m1, m2, m3, m4, m5, m6, m7, ⟨m8, m8b⟩, m9, ⟨m10, m10b⟩, m11, m12, m13⟩ := id hM
  obtain ⟨hV1, ⟨hV2, hV2b⟩, hV3, ⟨hV4, hV4b⟩, hV5⟩ := id m1
  obtain ⟨hnx1, hnx2⟩ : r32 x.2.2.2.2.1 := by rw [← m7]; exact hz.1 234 52
  have m4a := m4.1
  have m4b := m4.2
  obtain ⟨b1, b2⟩ := zHs_h m11 h1
  refine And.intro rfl ?_
  refine And.intro (zA_234 hS) (zrd (v := (x.2.2.2.2.2.2.2.length)) m10 ?_)
  refine And.intro (zA_234 hS) ⟨_, (zWi (by omega)), ?_⟩
  refine And.intro (zA_234 hS) (zrd (v := ((x.2.2.2.2.2.2.2.length) - 1)) rfl ?_)
  refine And.intro (zA_234 hS) (zrdR (v := some 262) (zR_234_59 hR) ?_)
  refine And.intro (zP_262 hS (by omega) (by omega)) (fun v20 e20 r20 => ?_)
  have f20 : v20 = (hdH x.2.2.2.2.2.2.2).2.2.2.1 := (e20.trans ((zxcj (by omega) rfl).trans ((congrArg (I 262) (by omega)).trans b1.1.2.2.2)))
  refine And.intro r20 ⟨fun h21 => ?_, fun h21 => ?_⟩
  · refine hQ _ _ (zMs_x (if_pos (by omega)).symm (zMs_c hM (fun c j h => (zxcj (by omega) rfl)) (fun c j h => rfl) m4.1 ((zxcj (by omega) rfl).trans m5.1) ((zxcj (by omega) rfl).trans m5.2) ((zxcj (by omega) rfl).trans m7) ⟨(zxcj (by omega) rfl).trans m8, m8b⟩ (fun i hi => (zxcj (by omega) rfl).trans (m9 i hi)) ⟨(show _ = (((x.2.2.2.2.2.2.2.length) - 1) : Int) from rfl).trans (by rw [hs_drop]; omega), by rw [hs_drop]; omega⟩ (zHs_fr b2 (fun c j h1 h2 h3 => (zxcj (by omega) rfl)) (fun j hj => rfl)) (zc42 (zxcj (by omega) rfl) m12))) (fun c j h0 h1 h2 h3 h4 h5 h6 h7 h8 h9 h10 h11 h12 h13 h14 h15 => (zxcj h5 rfl)) (fun c j h0 => rfl)
  · have t21 : zMs g lim (x.1, x.2.1, x.2.2.1, x.2.2.2.1, x.2.2.2.2.1, x.2.2.2.2.2.1, x.2.2.2.2.2.2.1, x.2.2.2.2.2.2.2.drop 1) (xu I 234 55 ((x.2.2.2.2.2.2.2.length) - 1)) L := (zMs_c hM (fun c j h => (zxcj (by omega) rfl)) (fun c j h => rfl) m4.1 ((zxcj (by omega) rfl).trans m5.1) ((zxcj (by omega) rfl).trans m5.2) ((zxcj (by omega) rfl).trans m7) ⟨(zxcj (by omega) rfl).trans m8, m8b⟩ (fun i hi => (zxcj (by omega) rfl).trans (m9 i hi)) ⟨(show _ = (((x.2.2.2.2.2.2.2.length) - 1) : Int) from rfl).trans (by rw [hs_drop]; omega), by rw [hs_drop]; omega⟩ (zHs_fr b2 (fun c j h1 h2 h3 => (zxcj (by omega) rfl)) (fun j hj => rfl)) (zc42 (zxcj (by omega) rfl) m12))
    refine And.intro (zA_234 hS) (zrdR (v := some 262) (zR_234_59 hR) ?_)
    refine And.intro (zP_262 hS (by omega) (by omega)) (fun v30 e30 r30 => ?_)
    have f30 : v30 = (hdH x.2.2.2.2.2.2.2).2.2.2.1 := (e30.trans ((zxcj (by omega) rfl).trans ((congrArg (I 262) (by omega)).trans b1.1.2.2.2)))
    refine And.intro (zA_234 hS) (zrdR (v := some 263) (zR_234_60 hR) ?_)
    refine And.intro (zP_263 hS (by omega) (by omega)) (fun v36 e36 r36 => ?_)
    have f36 : v36 = (hdH x.2.2.2.2.2.2.2).2.2.2.2.1 := (e36.trans ((zxcj (by omega) rfl).trans ((congrArg (I 263) (by omega)).trans (b1.2.1 (by omega)).1)))
    refine And.intro (zA_234 hS) (zrdR (v := some 264) (zR_234_61 hR) ?_)
    refine And.intro (zP_264 hS (by omega) (by omega)) (fun v42 e42 r42 => ?_)
    have f42 : v42 = (hdH x.2.2.2.2.2.2.2).2.2.2.2.2.1 := (e42.trans ((zxcj (by omega) rfl).trans ((congrArg (I 264) (by omega)).trans (b1.2.1 (by omega)).2)))
    refine And.intro (zA_234 hS) ⟨_, sn_G_rai.up (by decide), ?_⟩
    refine ⟨(x.2.2.2.2.2.2.2.drop 1), x.1.1, x.2.2.2.2.2.1, (v30 : Int), (v36 : Int), (v42 : Int), rfl, hS, hR, ((show _ = (((x.2.2.2.2.2.2.2.length) - 1) : Int) from rfl).trans (by rw [hs_drop]; omega)), (by rw [hs_drop]; omega), t21.2.2.2.2.2.2.2.2.2.2.1, t21.1, m8, m8b, (by omega), (by omega), (by omega), ?_⟩
    intro I43o L43o p43hR p43bg55 p43bbg53 p43bbbhcl2 p43bbbbfr p43bbbbbfrL
    refine hQ _ _ (zMs_x (if_neg (by omega)).symm (by rw [← f30, ← f36, ← f42]; exact (zMs_ra t21 p43hR p43bg55 p43bbg53 p43bbbhcl2 (fun c j h => p43bbbbfr c j (by omega) (by omega) (by omega) (by omega) (by omega) (by omega) (by omega) (by omega) (by omega) (by omega) (by omega) (by omega) (by omega) (by omega)) (fun c j h => p43bbbbbfrL c j (by omega))))) (fun c j h0 h1 h2 h3 h4 h5 h6 h7 h8 h9 h10 h11 h12 h13 h14 h15 => ((p43bbbbfr c j h0 h2 h4 h5 h6 h7 h8 h9 h10 h11 h12 h13 h14 h15).trans (zxcj h5 rfl))) (fun c j h0 => ((p43bbbbbfrL c j h0).trans rfl)))
