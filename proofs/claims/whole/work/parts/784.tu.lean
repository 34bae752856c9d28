/-! tu -/
def T_G_hnd : ZT := fun args I L R S Q => ∃ (hs : List HdT) (E : EvE) (cl : Nat) (kd : Int) (tg : Int), args = [zvr 234, zvi kd, zvi tg] ∧ (zSh S) ∧ (zRs R) ∧ (I 234 55 = hs.length) ∧ (hs.length ≤ 15) ∧ (zHs hs I L) ∧ (zRv E I L) ∧ (I 234 53 = cl) ∧ (cl ≤ 2) ∧ (hs.length ≤ 14) ∧ (kd = 7 ∨ kd = 9) ∧ (r32 tg) ∧ ∀ (I' : ZI) (L' : ZI), (zHs ((kd, cl, tg, 0, 0, 0, E.2.1, E.2.2.1) :: hs) I' L') → (I' 234 55 = hs.length + 1) → (∀ c j : Nat, ¬ (c = 234 ∧ j = 55) → ¬ (c = 259 ∧ j = hs.length) → ¬ (c = 260 ∧ j = hs.length) → ¬ (c = 261 ∧ j = hs.length) → ¬ (c = 262 ∧ j = hs.length) → ¬ (c = 266 ∧ j = hs.length) → I' c j = I c j) → (∀ c j : Nat, ¬ c = 265 → L' c j = L c j) → Q none I' L' R S
theorem sn_G_hnd : ZSnd 1 12 19 T_G_hnd := ZSnd.loops (zT12_19 0) (by
  rintro args I L R S Q hz ⟨hs, E, cl, kd, tg, rfl, hS, hR, h55, hl, hH, hV, h53, hcl, hl4, hkd, htg, hQ⟩
  obtain ⟨hV1, ⟨hV2, hV2b⟩, hV3, ⟨hV4, hV4b⟩, hV5⟩ := id hV
  refine ⟨[49], fun nM tM lsM stM I1 L1 R1 S1 => match tM with
      | 49 => ∃ (q : Nat), nM = ((73 - q), 0, 0) ∧ lsM = [some (zvr (234)), some (zvi (kd)), none, some (zvi (hs.length)), some (zvi (q))] ∧ stM = [] ∧ R1 = R ∧ S1 = S ∧ (q ≤ 72) ∧ (I1 234 55 = hs.length) ∧ (I1 259 hs.length = kd) ∧ (I1 260 hs.length = cl) ∧ (I1 261 hs.length = tg) ∧ (I1 262 hs.length = 0) ∧ (I1 266 hs.length = E.2.1) ∧ (∀ j : Nat, j < q → L1 265 (72 * hs.length + j) = E.2.2.1 j) ∧ (∀ j : Nat, j < 72 * hs.length → L1 265 j = L 265 j) ∧ (∀ c j : Nat, ¬ (c = 259 ∧ j = hs.length) → ¬ (c = 260 ∧ j = hs.length) → ¬ (c = 261 ∧ j = hs.length) → ¬ (c = 262 ∧ j = hs.length) → ¬ (c = 266 ∧ j = hs.length) → I1 c j = I c j) ∧ (∀ c j : Nat, ¬ c = 265 → L1 c j = L c j)
      | _ => False, rfl, ?_, ⟨?_, True.intro⟩⟩
  · refine And.intro (zA_234 hS) (zrd (v := (hs.length)) h55 ?_)
    refine And.intro (zA_234 hS) (zrdR (v := some 259) (zR_234_56 hR) ?_)
    refine And.intro ⟨(zx0 rfl), (zP_259 hS (by omega) (by omega))⟩ ⟨_, (zWi (by omega)), ?_⟩
    refine And.intro (zA_234 hS) (zrdR (v := some 260) (zR_234_57 hR) ?_)
    refine And.intro (zA_234 hS) (zrd (v := cl) h53 ?_)
    refine And.intro ⟨(zx0 rfl), (zP_260 hS (by omega) (by omega))⟩ ⟨_, (zWi (by omega)), ?_⟩
    refine And.intro (zA_234 hS) (zrdR (v := some 261) (zR_234_58 hR) ?_)
    refine And.intro ⟨(zx0 rfl), (zP_261 hS (by omega) (by omega))⟩ ⟨_, (zWi (by omega)), ?_⟩
    refine And.intro (zA_234 hS) (zrdR (v := some 262) (zR_234_59 hR) ?_)
    refine And.intro ⟨(zx0 rfl), (zP_262 hS (by omega) (by omega))⟩ ⟨_, (zWi (zRb rfl)), ?_⟩
    refine And.intro (zA_234 hS) (zrdR (v := some 266) (zR_234_63 hR) ?_)
    refine And.intro (zA_234 hS) (zrd (v := (E.2.1)) hV2 ?_)
    refine And.intro ⟨(zx0 rfl), (zP_266 hS (by omega) (by omega))⟩ ⟨_, (zWi (by omega)), ?_⟩
    refine ⟨((73 - (0 : Nat)), 0, 0), [some (zvr (234)), some (zvi (kd)), none, some (zvi (hs.length)), some (zvi ((0 : Nat)))], ⟨rfl, rfl, rfl, rfl, rfl⟩, 0, rfl, rfl, rfl, rfl, rfl, (by omega), (Eq.trans (b := ((hs.length) : Int)) h55 (by omega)), (by first | exact zxe' (by omega) | (refine zxu (by omega) ?_; first | exact zxe' (by omega) | (refine zxu (by omega) ?_; first | exact zxe' (by omega) | (refine zxu (by omega) ?_; first | exact zxe' (by omega) | (refine zxu (by omega) ?_; exact zxe' (by omega)))))), (by first | exact zxe' (by omega) | (refine zxu (by omega) ?_; first | exact zxe' (by omega) | (refine zxu (by omega) ?_; first | exact zxe' (by omega) | (refine zxu (by omega) ?_; first | exact zxe' (by omega) | (refine zxu (by omega) ?_; exact zxe' (by omega)))))), (by first | exact zxe' (by omega) | (refine zxu (by omega) ?_; first | exact zxe' (by omega) | (refine zxu (by omega) ?_; first | exact zxe' (by omega) | (refine zxu (by omega) ?_; first | exact zxe' (by omega) | (refine zxu (by omega) ?_; exact zxe' (by omega)))))), (by first | exact zxe' (by omega) | (refine zxu (by omega) ?_; first | exact zxe' (by omega) | (refine zxu (by omega) ?_; first | exact zxe' (by omega) | (refine zxu (by omega) ?_; first | exact zxe' (by omega) | (refine zxu (by omega) ?_; exact zxe' (by omega)))))), (by first | exact zxe' (by omega) | (refine zxu (by omega) ?_; first | exact zxe' (by omega) | (refine zxu (by omega) ?_; first | exact zxe' (by omega) | (refine zxu (by omega) ?_; first | exact zxe' (by omega) | (refine zxu (by omega) ?_; exact zxe' (by omega)))))), (fun j h => absurd h (Nat.not_lt_zero j)), (fun j h => rfl), (fun c j h0 h1 h2 h3 h4 => (zxcj (by omega) (zxcj (by omega) (zxcj (by omega) (zxcj (by omega) (zxcj (by omega) rfl)))))), (fun c j h0 => rfl)⟩
  · rintro nM lsM stM I1 L1 R1 S1 hz1 ⟨q, rfl, rfl, rfl, rfl, rfl, hq, i55, a0, a1, a2, a3, a4, hs9, hlo, fr, frL⟩
    refine And.intro ⟨(by omega), (zRb rfl)⟩ ⟨fun h53 => ?_, fun h53 => ?_⟩
    · refine And.intro (zA_234 hS) (zrd (v := (hs.length)) i55 ?_)
      refine And.intro (zA_234 hS) ⟨_, (zWi (by omega)), ?_⟩
      refine hQ _ _ ⟨⟨⟨zxu (by omega) a0, zxu (by omega) a1, fun _ => zxu (by omega) a2, zxu (by omega) a3⟩, fun z => absurd rfl z, fun z => ⟨⟨zxu (by omega) a4, hV2b⟩, fun j hj => hs9 j (by first | omega | (exfalso; have z2 : kd = 7 := z; omega))⟩, hcl⟩, zHs_fr hH (fun c j h1 h2 h3 => (zxcj (by omega) ((fr c j (by omega) (by omega) (by omega) (by omega) (by omega)).trans rfl))) (fun j hj => hlo j hj)⟩ (Eq.trans (b := (((hs.length) + 1) : Int)) rfl (by omega)) (fun c j h0 h1 h2 h3 h4 h5 => (zxcj h0 ((fr c j h1 h2 h3 h4 h5).trans rfl))) (fun c j h0 => ((frL c j h0).trans rfl))
    · refine And.intro ⟨(by omega), (zRb rfl)⟩ ⟨fun h59 => ?_, fun h59 => ?_⟩
      · refine And.intro (zA_234 hS) (zrd (v := (hs.length)) i55 ?_)
        refine And.intro (zA_234 hS) ⟨_, (zWi (by omega)), ?_⟩
        refine hQ _ _ ⟨⟨⟨zxu (by omega) a0, zxu (by omega) a1, fun _ => zxu (by omega) a2, zxu (by omega) a3⟩, fun z => absurd rfl z, fun z => ⟨⟨zxu (by omega) a4, hV2b⟩, fun j hj => hs9 j (by first | omega | (exfalso; have z2 : kd = 7 := z; omega))⟩, hcl⟩, zHs_fr hH (fun c j h1 h2 h3 => (zxcj (by omega) ((fr c j (by omega) (by omega) (by omega) (by omega) (by omega)).trans rfl))) (fun j hj => hlo j hj)⟩ (Eq.trans (b := (((hs.length) + 1) : Int)) rfl (by omega)) (fun c j h0 h1 h2 h3 h4 h5 => (zxcj h0 ((fr c j h1 h2 h3 h4 h5).trans rfl))) (fun c j h0 => ((frL c j h0).trans rfl))
      · refine And.intro (zA_234 hS) (zrdR (v := some 265) (zR_234_62 hR) ?_)
        refine And.intro (zA_234 hS) (zrdR (v := some 251) (zR_234_29 hR) ?_)
        refine And.intro (zP_251 hS (by omega) (by omega)) (fun v79 e79 r79 => ?_)
        have f79 : v79 = E.2.2.1 q := (e79.trans ((frL _ _ (by omega)).trans (hV3 _ (by omega))))
        refine And.intro ⟨(zx0 rfl), (zP_265 hS (by omega) (by omega))⟩ ⟨_, zW6i r79, ?_⟩
        refine ⟨((73 - (q + 1)), 0, 0), zlt6 (by omega), [some (zvr (234)), some (zvi (kd)), none, some (zvi (hs.length)), some (zvi ((q + 1)))], ⟨rfl, rfl, rfl, rfl, rfl⟩, (q + 1), rfl, rfl, rfl, rfl, rfl, (by omega), (Eq.trans (b := ((hs.length) : Int)) i55 (by omega)), a0, a1, a2, a3, a4, ?_, (fun j h => zxs (by omega) (hlo j h)), (fun c j h0 h1 h2 h3 h4 => ((fr c j h0 h1 h2 h3 h4).trans rfl)), (fun c j h0 => (zxu h0 ((frL c j h0).trans rfl)))⟩
        · intro j hj
          by_cases e9 : j = q
          · rw [e9]; exact (zxe' (by omega)).trans f79
          · exact zxs (by omega) (hs9 j (by omega)))
def T_G_ena : ZT := fun args I L R S Q => ∃ (hs : List HdT) (E : EvE) (cl : Nat) (w : Int), args = [zvr 234, zvi w] ∧ (zSh S) ∧ (zRs R) ∧ (I 234 55 = hs.length) ∧ (hs.length ≤ 15) ∧ (zHs hs I L) ∧ (zRv E I L) ∧ (I 234 53 = cl) ∧ (cl ≤ 2) ∧ (1 ≤ hs.length) ∧ (I 234 32 = -1) ∧ ∀ (I' : ZI), (I' 234 55 = hs.length - 1) → (∀ c j : Nat, ¬ (c = 234 ∧ j = 55) → I' c j = I c j) → Q none I' L R S
theorem sn_G_ena : ZSnd 3 12 14 T_G_ena := ZSnd.of (zT12_14 2) (by
  rintro args I L R S Q hz ⟨hs, E, cl, w, rfl, hS, hR, h55, hl, hH, hV, h53, hcl, h1, h32, hQ⟩
  refine And.intro rfl ?_
  refine And.intro (zA_234 hS) (zrd (v := (-1)) h32 ?_)
  refine And.intro ⟨(zRb rfl), (zRb rfl)⟩ (zbt rfl ?_)
  refine And.intro (zA_234 hS) (zrd (v := (hs.length)) h55 ?_)
  refine And.intro (zA_234 hS) ⟨_, (zWi (by omega)), ?_⟩
  refine hQ _ (Eq.trans (b := (((hs.length) - 1) : Int)) rfl (by omega)) (fun c j h0 => (zxcj h0 rfl)))
def T_G_bcl : ZT := fun args I L R S Q => ∃ (hs : List HdT) (E : EvE) (cl : Nat) (w : Int) (m : Int), args = [zvr 234, zvi w] ∧ (zSh S) ∧ (zRs R) ∧ (I 234 55 = hs.length) ∧ (hs.length ≤ 15) ∧ (zHs hs I L) ∧ (zRv E I L) ∧ (I 234 53 = cl) ∧ (cl ≤ 2) ∧ (1 ≤ hs.length) ∧ (I 234 42 = m) ∧ (0 ≤ m ∧ m ≤ 20) ∧ (r32 w) ∧ ∀ (m2 : Int) (I' : ZI), (zHs ((10, (hdH hs).2) :: hs.drop 1) I' L) → (I' 234 42 = m2) → (0 ≤ m2 ∧ m2 ≤ 20) → (∀ c j : Nat, ¬ c = 259 → ¬ (c = 234 ∧ j = 42) → ¬ c = 257 → I' c j = I c j) → Q none I' L R S
theorem sn_G_bcl : ZSnd 1 12 6 T_G_bcl := ZSnd.of (zT12_6 0) (by
  rintro args I L R S Q hz ⟨hs, E, cl, w, m, rfl, hS, hR, h55, hl, hH, hV, h53, hcl, h1, h42, hm, hw, hQ⟩
  obtain ⟨b1, b2⟩ := zHs_h hH h1
  refine And.intro rfl ?_
  refine And.intro (zA_234 hS) (zrdR (v := some 259) (zR_234_56 hR) ?_)
  refine And.intro (zA_234 hS) (zrd (v := (hs.length)) h55 ?_)
  refine And.intro ⟨(zx0 rfl), (zP_259 hS (by omega) (by omega))⟩ ⟨_, (zWi (zRb rfl)), ?_⟩
  refine And.intro (zA_234 hS) (zrd (v := m) h42 ?_)
  refine And.intro ⟨(by omega), (zRb rfl)⟩ ⟨fun h19 => ?_, fun h19 => ?_⟩
  · refine And.intro (zA_234 hS) (zrdR (v := some 257) (zR_234_43 hR) ?_)
    refine And.intro (zA_234 hS) (zrd (v := m) h42 ?_)
    refine And.intro ⟨(zx0 rfl), (zP_257 hS (by omega) (by omega))⟩ ⟨_, (zWi (by omega)), ?_⟩
    refine And.intro (zA_234 hS) (zrd (v := m) h42 ?_)
    refine And.intro (zA_234 hS) ⟨_, (zWi (by omega)), ?_⟩
    refine hQ ((m + 1) : Int) _ ⟨⟨⟨(by first | exact zxe' (by rw [hs_drop]; omega) | exact zxu (by omega) (zxu (by omega) (zxe' (by rw [hs_drop]; omega)))), (zxu (by omega) (zxu (by omega) (zxu (by omega) rfl))).trans ((congrArg (I 260) (by rw [hs_drop])).trans b1.1.2.1), fun q => absurd (show (10 : Int) = 9 from q) (by decide), (zxu (by omega) (zxu (by omega) (zxu (by omega) rfl))).trans ((congrArg (I 262) (by rw [hs_drop])).trans b1.1.2.2.2)⟩, fun z => ⟨(zxu (by omega) (zxu (by omega) (zxu (by omega) rfl))).trans ((congrArg (I 263) (by rw [hs_drop])).trans (b1.2.1 z).1), (zxu (by omega) (zxu (by omega) (zxu (by omega) rfl))).trans ((congrArg (I 264) (by rw [hs_drop])).trans (b1.2.1 z).2)⟩, fun z => absurd (show (10 : Int) = 7 from z) (by decide), b1.2.2.2⟩, zHs_fr b2 (fun c j h1 h2 h3 => by rw [hs_drop] at h3; exact (zxcj (by omega) (zxcj (by omega) (zxcj (by omega) rfl)))) (fun j hj => rfl)⟩ rfl (by omega) (fun c j h0 h1 h2 => (zxcj h1 (zxu h2 (zxu h0 rfl))))
  · refine hQ (m : Int) _ ⟨⟨⟨(by first | exact zxe' (by rw [hs_drop]; omega) | exact zxu (by omega) (zxu (by omega) (zxe' (by rw [hs_drop]; omega)))), (zxu (by omega) rfl).trans ((congrArg (I 260) (by rw [hs_drop])).trans b1.1.2.1), fun q => absurd (show (10 : Int) = 9 from q) (by decide), (zxu (by omega) rfl).trans ((congrArg (I 262) (by rw [hs_drop])).trans b1.1.2.2.2)⟩, fun z => ⟨(zxu (by omega) rfl).trans ((congrArg (I 263) (by rw [hs_drop])).trans (b1.2.1 z).1), (zxu (by omega) rfl).trans ((congrArg (I 264) (by rw [hs_drop])).trans (b1.2.1 z).2)⟩, fun z => absurd (show (10 : Int) = 7 from z) (by decide), b1.2.2.2⟩, zHs_fr b2 (fun c j h1 h2 h3 => by rw [hs_drop] at h3; exact (zxcj (by omega) rfl)) (fun j hj => rfl)⟩ h42 (by omega) (fun c j h0 h1 h2 => (zxu h0 rfl)))
