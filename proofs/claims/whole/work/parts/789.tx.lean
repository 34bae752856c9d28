/-! tx -/
def T_G_acq : ZT := fun args I L R S Q => ∃ (g : Nat) (lim : Nat) (x : MsT) (i : Nat) (kc : Nat) (o : OrT) (b : Int), args = [zvr 234, zvi 15, zvi b] ∧ (zSh S) ∧ (zRs R) ∧ (I 234 3 = g) ∧ (g ≤ 1) ∧ (zMs g lim x I L) ∧ (zOr g kc i o I) ∧ (I 234 51 = o.2.1) ∧ (kc ≤ 1000) ∧ (i ≤ 599) ∧ (b = 600 * g + i) ∧ (o.1 = 15) ∧ ∀ (I' : ZI) (L' : ZI), (zMs g lim (mQr o.2.2.2.2.1 o.2.1 x) I' L') → (∀ c j : Nat, ¬ (c = 234 ∧ j = 28) → ¬ (c = 234 ∧ j = 30) → ¬ (c = 234 ∧ j = 44) → ¬ (c = 234 ∧ j = 66) → ¬ (c = 234 ∧ j = 53) → ¬ (c = 234 ∧ j = 55) → ¬ (c = 234 ∧ j = 46) → ¬ (c = 234 ∧ j = 47) → ¬ (c = 234 ∧ j = 48) → ¬ (c = 234 ∧ j = 49) → ¬ (c = 234 ∧ j = 50) → ¬ (c = 234 ∧ j = 52) → ¬ c = 259 → ¬ c = 262 → ¬ c = 263 → ¬ c = 264 → ¬ (c = 234 ∧ j = 40) → ¬ c = 256 → I' c j = I c j) → (∀ c j : Nat, ¬ c = 251 → ¬ c = 252 → ¬ c = 253 → ¬ c = 267 → ¬ (c = 234 ∧ j = 65) → L' c j = L c j) → Q none I' L' R S
theorem sn_G_acq : ZSnd 4 12 0 T_G_acq := ZSnd.of (zT12_0 3) (by
  rintro args I L R S Q hz ⟨g, lim, x, i, kc, o, b, rfl, hS, hR, h3, hg, hM, hO, h51, hkc, hi6, hb, hk1, hQ⟩
  obtain ⟨m1, m2, m3, m4, m5, m6, m7, ⟨m8, m8b⟩, m9, ⟨m10, m10b⟩, m11, m12, m13⟩ := id hM
  obtain ⟨hV1, ⟨hV2, hV2b⟩, hV3, ⟨hV4, hV4b⟩, hV5⟩ := id m1
  have hplr : r32 o.2.1 := by rw [← h51]; exact hz.1 234 51
  refine And.intro rfl ?_
  refine And.intro ⟨(zRb rfl), (zRb rfl)⟩ (zbt rfl ?_)
  refine And.intro ⟨(zRb rfl), (zRb rfl)⟩ (zbf rfl ?_)
  refine And.intro (zA_234 hS) ⟨_, sn_G_aob.up (by decide), ?_⟩
  refine ⟨g, lim, x, i, o.2.1, kc, o.2.2.2.2.1, (b : Int), rfl, hS, hR, h3, (by omega), hM, h51, (by omega), (by omega), (by omega), (hO.2.2 (by unfold hsL; omega)), ?_⟩
  intro I49o L49o p49hM2 p49bfr p49bbfrL
  refine hQ _ _ p49hM2 (fun c j h0 h1 h2 h3 h4 h5 h6 h7 h8 h9 h10 h11 h12 h13 h14 h15 h16 h17 => ((p49bfr c j h0 h1 h2 h3 h4 h5 h6 h7 h8 h9 h10 h11 h12 h13 h14 h15 h16 h17).trans rfl)) (fun c j h0 h1 h2 h3 h4 => ((p49bbfrL c j h0 h1 h2 h3 h4).trans rfl)))
def T_G_acr : ZT := fun args I L R S Q => ∃ (g : Nat) (lim : Nat) (x : MsT) (i : Nat) (kc : Nat) (o : OrT) (b : Int), args = [zvr 234, zvi 14, zvi b] ∧ (zSh S) ∧ (zRs R) ∧ (I 234 3 = g) ∧ (g ≤ 1) ∧ (zMs g lim x I L) ∧ (zOr g kc i o I) ∧ (I 234 51 = o.2.1) ∧ (kc ≤ 1000) ∧ (i ≤ 599) ∧ (b = 600 * g + i) ∧ (o.1 = 14) ∧ ∀ (I' : ZI), (zMs g lim (if x.1.2.2.1 < 8 then mDt x (x.1.1, x.1.2.1, (x.1.2.2.1 + 1, upF x.1.2.2.2 x.1.2.2.1 i)) else x) I' L) → (∀ c j : Nat, ¬ (c = 234 ∧ j = 38) → ¬ c = 255 → I' c j = I c j) → Q none I' L R S
theorem sn_G_acr : ZSnd 4 12 0 T_G_acr := ZSnd.of (zT12_0 3) (by
  rintro args I L R S Q hz ⟨g, lim, x, i, kc, o, b, rfl, hS, hR, h3, hg, hM, hO, h51, hkc, hi6, hb, hk1, hQ⟩
  obtain ⟨m1, m2, m3, m4, m5, m6, m7, ⟨m8, m8b⟩, m9, ⟨m10, m10b⟩, m11, m12, m13⟩ := id hM
  obtain ⟨hV1, ⟨hV2, hV2b⟩, hV3, ⟨hV4, hV4b⟩, hV5⟩ := id m1
  have hplr : r32 o.2.1 := by rw [← h51]; exact hz.1 234 51
  have m38 := m3.1.1
  have m38b := m3.1.2
  refine And.intro rfl ?_
  refine And.intro ⟨(zRb rfl), (zRb rfl)⟩ (zbf rfl ?_)
  refine And.intro (zA_234 hS) (zrd (v := (x.1.2.2.1)) m38 ?_)
  refine And.intro ⟨(by omega), (zRb rfl)⟩ ⟨fun h12 => ?_, fun h12 => ?_⟩
  · refine hQ _ ?_ (fun c j h0 h1 => rfl)
    · first
      | exact zMs_x (if_neg (by omega)).symm hM
      | exact zMs_x (if_pos (by omega)).symm (zMs_r hM (by omega) (zxe.trans (by omega)) ((zxu (by omega) (zxe' (by omega))).trans (e28.trans (congrArg (I 242) (by omega)))) (fun c j h1 h2 => zxcj h1 (zxcj (by omega) rfl)))
  · refine And.intro (zA_234 hS) (zrdR (v := some 255) (zR_234_39 hR) ?_)
    refine And.intro (zA_234 hS) (zrd (v := (x.1.2.2.1)) m38 ?_)
    refine And.intro (zA_234 hS) (zrdR (v := some 242) (zR_234_10 hR) ?_)
    refine And.intro (zP_242 hS (by omega) (by omega)) (fun v28 e28 r28 => ?_)
    refine And.intro ⟨(zx0 rfl), (zP_255 hS (by omega) (by omega))⟩ ⟨_, (zWi r28), ?_⟩
    refine And.intro (zA_234 hS) (zrd (v := (x.1.2.2.1)) m38 ?_)
    refine And.intro (zA_234 hS) ⟨_, (zWi (by omega)), ?_⟩
    refine hQ _ ?_ (fun c j h0 h1 => (zxcj h0 (zxu h1 rfl)))
    · first
      | exact zMs_x (if_neg (by omega)).symm hM
      | exact zMs_x (if_pos (by omega)).symm (zMs_r hM (by omega) (zxe.trans (by omega)) ((zxu (by omega) (zxe' (by omega))).trans (e28.trans (congrArg (I 242) (by omega)))) (fun c j h1 h2 => zxcj h1 (zxcj (by omega) rfl))))
def T_G_ac4 : ZT := fun args I L R S Q => ∃ (g : Nat) (lim : Nat) (x : MsT) (i : Nat) (kc : Nat) (o : OrT) (b : Int), args = [zvr 234, zvi 4, zvi b] ∧ (zSh S) ∧ (zRs R) ∧ (I 234 3 = g) ∧ (g ≤ 1) ∧ (zMs g lim x I L) ∧ (zOr g kc i o I) ∧ (I 234 51 = o.2.1) ∧ (kc ≤ 1000) ∧ (i ≤ 599) ∧ (b = 600 * g + i) ∧ (o.1 = 4) ∧ ∀ (I' : ZI) (L' : ZI), (zMs g lim (if evF x.1.1 o.2.2.2.2.1 ≠ 0 then mRa (evF x.1.1 o.2.2.2.2.1) o.2.1 0 x else (if x.1.2.1.1 < 40 then mDt x (x.1.1, (x.1.2.1.1 + 1, upF x.1.2.1.2 x.1.2.1.1 (zn (evV x.1.1 o.2.2.2.2.1))), x.1.2.2) else x)) I' L') → (∀ c j : Nat, ¬ (c = 234 ∧ j = 28) → ¬ (c = 234 ∧ j = 30) → ¬ (c = 234 ∧ j = 44) → ¬ (c = 234 ∧ j = 66) → ¬ (c = 234 ∧ j = 53) → ¬ (c = 234 ∧ j = 55) → ¬ (c = 234 ∧ j = 46) → ¬ (c = 234 ∧ j = 47) → ¬ (c = 234 ∧ j = 48) → ¬ (c = 234 ∧ j = 49) → ¬ (c = 234 ∧ j = 50) → ¬ (c = 234 ∧ j = 52) → ¬ c = 259 → ¬ c = 262 → ¬ c = 263 → ¬ c = 264 → ¬ (c = 234 ∧ j = 36) → ¬ c = 254 → I' c j = I c j) → (∀ c j : Nat, ¬ c = 251 → ¬ c = 252 → ¬ c = 253 → ¬ c = 267 → ¬ (c = 234 ∧ j = 65) → L' c j = L c j) → Q none I' L' R S
theorem sn_G_ac4 : ZSnd 4 12 0 T_G_ac4 := ZSnd.of (zT12_0 3) (by
  rintro args I L R S Q hz ⟨g, lim, x, i, kc, o, b, rfl, hS, hR, h3, hg, hM, hO, h51, hkc, hi6, hb, hk1, hQ⟩
  obtain ⟨m1, m2, m3, m4, m5, m6, m7, ⟨m8, m8b⟩, m9, ⟨m10, m10b⟩, m11, m12, m13⟩ := id hM
  obtain ⟨hV1, ⟨hV2, hV2b⟩, hV3, ⟨hV4, hV4b⟩, hV5⟩ := id m1
  have hplr : r32 o.2.1 := by rw [← h51]; exact hz.1 234 51
  obtain ⟨q2, s1, s2, s3, s4⟩ := hO.2.2 (by unfold hsL; omega)
  have m36 := m2.1.1
  have m36b := m2.1.2
  refine And.intro rfl ?_
  refine And.intro ⟨(zRb rfl), (zRb rfl)⟩ (zbt rfl ?_)
  refine And.intro ⟨(zRb rfl), (zRb rfl)⟩ (zbt rfl ?_)
  refine And.intro (zA_234 hS) (zrdR (v := some 242) (zR_234_10 hR) ?_)
  refine And.intro (zP_242 hS (by omega) (by omega)) (fun v59 e59 r59 => ?_)
  have f59 : v59 = q2 := (e59.trans ((congrArg (I 242) (by omega)).trans s1))
  refine And.intro (zA_234 hS) ⟨_, sn_G_ask.up (by decide), ?_⟩
  refine ⟨g, q2, o.2.2.2.2.1, x.1.1, (v59 : Int), rfl, hS, hR, h3, (by omega), s3, s4, m1, (by omega), (by omega), ?_⟩
  intro v60o I60o L60o p60hv p60bh66 p60bbh65 p60bbbfr p60bbbbfrL
  have g60 : zMs g lim x I60o L60o := (zMs_fr hM (fun c j h => by unfold msK at h; exact p60bbbfr c j (by omega)) (fun c j h => p60bbbbfrL c j (by omega) (by omega)))
  refine And.intro (by omega) ⟨fun h63 => ?_, fun h63 => ?_⟩
  · refine And.intro ⟨(zRb rfl), (zRb rfl)⟩ (zbf rfl ?_)
    refine And.intro (zA_234 hS) (zrd (v := (x.1.2.1.1)) ((p60bbbfr 234 36 (by omega)).trans m36) ?_)
    refine And.intro ⟨(by omega), (zRb rfl)⟩ ⟨fun h93 => ?_, fun h93 => ?_⟩
    · refine hQ _ _ (zMs_x (if_neg (by omega)).symm (zMs_x (if_neg (by omega)).symm g60)) (fun c j h0 h1 h2 h3 h4 h5 h6 h7 h8 h9 h10 h11 h12 h13 h14 h15 h16 h17 => ((p60bbbfr c j h3).trans rfl)) (fun c j h0 h1 h2 h3 h4 => ((p60bbbbfrL c j h3 h4).trans rfl))
    · refine And.intro (zA_234 hS) (zrdR (v := some 254) (zR_234_37 hR) ?_)
      refine And.intro (zA_234 hS) (zrd (v := (x.1.2.1.1)) ((p60bbbfr 234 36 (by omega)).trans m36) ?_)
      refine And.intro (zA_234 hS) (fun v105 e105 r105 => ?_)
      have f105 : v105 = evV x.1.1 o.2.2.2.2.1 := (e105.trans (p60bbh65 (by omega)))
      refine ⟨_, zWt _, ?_⟩
      refine And.intro ⟨(zx0 rfl), (zP_254 hS (by omega) (by omega))⟩ ⟨_, (zWi (zn_r _)), ?_⟩
      refine And.intro (zA_234 hS) (zrd (v := (x.1.2.1.1)) ((p60bbbfr 234 36 (by omega)).trans m36) ?_)
      refine And.intro (zA_234 hS) ⟨_, (zWi (by omega)), ?_⟩
      refine hQ _ _ (zMs_x (if_neg (by omega)).symm (zMs_x (if_pos (by omega)).symm (zMs_o g60 (by omega) (zxe.trans (by omega)) ((zxu (by omega) (zxe' (by omega))).trans (by rw [f105])) (fun c j h1 h2 => zxcj h1 (zxcj (by omega) rfl))))) (fun c j h0 h1 h2 h3 h4 h5 h6 h7 h8 h9 h10 h11 h12 h13 h14 h15 h16 h17 => (zxcj h16 (zxu h17 ((p60bbbfr c j h3).trans rfl)))) (fun c j h0 h1 h2 h3 h4 => ((p60bbbbfrL c j h3 h4).trans rfl))
  · refine And.intro (zA_234 hS) (zrd (v := ((evF (x.1.1) (o.2.2.2.2.1) : Nat))) p60bh66 ?_)
    refine And.intro (zA_234 hS) (zrd (v := (o.2.1)) ((p60bbbfr 234 51 (by omega)).trans h51) ?_)
    refine And.intro (zA_234 hS) ⟨_, sn_G_rai.up (by decide), ?_⟩
    refine ⟨x.2.2.2.2.2.2.2, x.1.1, x.2.2.2.2.2.1, (((evF (x.1.1) (o.2.2.2.2.1) : Nat)) : Int), ((o.2.1) : Int), (0 : Int), rfl, hS, hR, (Eq.trans (b := ((x.2.2.2.2.2.2.2.length) : Int)) ((p60bbbfr 234 55 (by omega)).trans m10) (by omega)), (by omega), g60.2.2.2.2.2.2.2.2.2.2.1, g60.1, ((p60bbbfr 234 53 (by omega)).trans m8), m8b, (by have z := evF_9 (E := x.1.1) (l := o.2.2.2.1); have z2 := evF_9 (E := x.1.1) (l := o.2.2.2.2.1); omega), hplr, (by omega), ?_⟩
    intro I76o L76o p76hR p76bg55 p76bbg53 p76bbbhcl2 p76bbbbfr p76bbbbbfrL
    refine hQ _ _ (zMs_x (if_pos (by omega)).symm (zMs_ra g60 p76hR p76bg55 p76bbg53 p76bbbhcl2 (fun c j h => p76bbbbfr c j (by omega) (by omega) (by omega) (by omega) (by omega) (by omega) (by omega) (by omega) (by omega) (by omega) (by omega) (by omega) (by omega) (by omega)) (fun c j h => p76bbbbbfrL c j (by omega)))) (fun c j h0 h1 h2 h3 h4 h5 h6 h7 h8 h9 h10 h11 h12 h13 h14 h15 h16 h17 => ((p76bbbbfr c j h0 h2 h4 h5 h6 h7 h8 h9 h10 h11 h12 h13 h14 h15).trans ((p60bbbfr c j h3).trans rfl))) (fun c j h0 h1 h2 h3 h4 => ((p76bbbbbfrL c j h0).trans ((p60bbbbfrL c j h3 h4).trans rfl))))
def T_G_ac12 : ZT := fun args I L R S Q => ∃ (g : Nat) (lim : Nat) (x : MsT) (i : Nat) (kc : Nat) (o : OrT) (b : Int), args = [zvr 234, zvi 12, zvi b] ∧ (zSh S) ∧ (zRs R) ∧ (I 234 3 = g) ∧ (g ≤ 1) ∧ (zMs g lim x I L) ∧ (zOr g kc i o I) ∧ (I 234 51 = o.2.1) ∧ (kc ≤ 1000) ∧ (i ≤ 599) ∧ (b = 600 * g + i) ∧ (o.1 = 12) ∧ ∀ (I' : ZI) (L' : ZI), (zMs g lim (if evF x.1.1 o.2.2.2.2.1 ≠ 0 then mRa (evF x.1.1 o.2.2.2.2.1) o.2.1 0 x else mRa 4 o.2.1 (zn (evV x.1.1 o.2.2.2.2.1)) x) I' L') → (∀ c j : Nat, ¬ (c = 234 ∧ j = 28) → ¬ (c = 234 ∧ j = 30) → ¬ (c = 234 ∧ j = 44) → ¬ (c = 234 ∧ j = 66) → ¬ (c = 234 ∧ j = 53) → ¬ (c = 234 ∧ j = 55) → ¬ (c = 234 ∧ j = 46) → ¬ (c = 234 ∧ j = 47) → ¬ (c = 234 ∧ j = 48) → ¬ (c = 234 ∧ j = 49) → ¬ (c = 234 ∧ j = 50) → ¬ (c = 234 ∧ j = 52) → ¬ c = 259 → ¬ c = 262 → ¬ c = 263 → ¬ c = 264 → I' c j = I c j) → (∀ c j : Nat, ¬ c = 251 → ¬ c = 252 → ¬ c = 253 → ¬ c = 267 → ¬ (c = 234 ∧ j = 65) → L' c j = L c j) → Q none I' L' R S
theorem sn_G_ac12 : ZSnd 4 12 0 T_G_ac12 := ZSnd.of (zT12_0 3) (by
  rintro args I L R S Q hz ⟨g, lim, x, i, kc, o, b, rfl, hS, hR, h3, hg, hM, hO, h51, hkc, hi6, hb, hk1, hQ⟩
  obtain ⟨m1, m2, m3, m4, m5, m6, m7, ⟨m8, m8b⟩, m9, ⟨m10, m10b⟩, m11, m12, m13⟩ := id hM
  obtain ⟨hV1, ⟨hV2, hV2b⟩, hV3, ⟨hV4, hV4b⟩, hV5⟩ := id m1
  have hplr : r32 o.2.1 := by rw [← h51]; exact hz.1 234 51
  obtain ⟨q2, s1, s2, s3, s4⟩ := hO.2.2 (by unfold hsL; omega)
  refine And.intro rfl ?_
  refine And.intro ⟨(zRb rfl), (zRb rfl)⟩ (zbt rfl ?_)
  refine And.intro ⟨(zRb rfl), (zRb rfl)⟩ (zbt rfl ?_)
  refine And.intro (zA_234 hS) (zrdR (v := some 242) (zR_234_10 hR) ?_)
  refine And.intro (zP_242 hS (by omega) (by omega)) (fun v59 e59 r59 => ?_)
  have f59 : v59 = q2 := (e59.trans ((congrArg (I 242) (by omega)).trans s1))
  refine And.intro (zA_234 hS) ⟨_, sn_G_ask.up (by decide), ?_⟩
  refine ⟨g, q2, o.2.2.2.2.1, x.1.1, (v59 : Int), rfl, hS, hR, h3, (by omega), s3, s4, m1, (by omega), (by omega), ?_⟩
  intro v60o I60o L60o p60hv p60bh66 p60bbh65 p60bbbfr p60bbbbfrL
  have g60 : zMs g lim x I60o L60o := (zMs_fr hM (fun c j h => by unfold msK at h; exact p60bbbfr c j (by omega)) (fun c j h => p60bbbbfrL c j (by omega) (by omega)))
  refine And.intro (by omega) ⟨fun h63 => ?_, fun h63 => ?_⟩
  · refine And.intro ⟨(zRb rfl), (zRb rfl)⟩ (zbt rfl ?_)
    refine And.intro ⟨(zRb rfl), (zRb rfl)⟩ (zbf rfl ?_)
    refine And.intro (zA_234 hS) (zrd (v := (o.2.1)) ((p60bbbfr 234 51 (by omega)).trans h51) ?_)
    refine And.intro (zA_234 hS) (fun v136 e136 r136 => ?_)
    have f136 : v136 = evV x.1.1 o.2.2.2.2.1 := (e136.trans (p60bbh65 (by omega)))
    refine ⟨_, zWt _, ?_⟩
    refine And.intro (zA_234 hS) ⟨_, sn_G_rai.up (by decide), ?_⟩
    refine ⟨x.2.2.2.2.2.2.2, x.1.1, x.2.2.2.2.2.1, (4 : Int), ((o.2.1) : Int), ((zn v136) : Int), rfl, hS, hR, (Eq.trans (b := ((x.2.2.2.2.2.2.2.length) : Int)) ((p60bbbfr 234 55 (by omega)).trans m10) (by omega)), (by omega), g60.2.2.2.2.2.2.2.2.2.2.1, g60.1, ((p60bbbfr 234 53 (by omega)).trans m8), m8b, (by omega), hplr, (zn_r _), ?_⟩
    intro I140o L140o p140hR p140bg55 p140bbg53 p140bbbhcl2 p140bbbbfr p140bbbbbfrL
    refine hQ _ _ (zMs_x (if_neg (by omega)).symm (zMs_x (by rw [f136]) (zMs_ra g60 p140hR p140bg55 p140bbg53 p140bbbhcl2 (fun c j h => p140bbbbfr c j (by omega) (by omega) (by omega) (by omega) (by omega) (by omega) (by omega) (by omega) (by omega) (by omega) (by omega) (by omega) (by omega) (by omega)) (fun c j h => p140bbbbbfrL c j (by omega))))) (fun c j h0 h1 h2 h3 h4 h5 h6 h7 h8 h9 h10 h11 h12 h13 h14 h15 => ((p140bbbbfr c j h0 h2 h4 h5 h6 h7 h8 h9 h10 h11 h12 h13 h14 h15).trans ((p60bbbfr c j h3).trans rfl))) (fun c j h0 h1 h2 h3 h4 => ((p140bbbbbfrL c j h0).trans ((p60bbbbfrL c j h3 h4).trans rfl)))
  · refine And.intro (zA_234 hS) (zrd (v := ((evF (x.1.1) (o.2.2.2.2.1) : Nat))) p60bh66 ?_)
    refine And.intro (zA_234 hS) (zrd (v := (o.2.1)) ((p60bbbfr 234 51 (by omega)).trans h51) ?_)
    refine And.intro (zA_234 hS) ⟨_, sn_G_rai.up (by decide), ?_⟩
    refine ⟨x.2.2.2.2.2.2.2, x.1.1, x.2.2.2.2.2.1, (((evF (x.1.1) (o.2.2.2.2.1) : Nat)) : Int), ((o.2.1) : Int), (0 : Int), rfl, hS, hR, (Eq.trans (b := ((x.2.2.2.2.2.2.2.length) : Int)) ((p60bbbfr 234 55 (by omega)).trans m10) (by omega)), (by omega), g60.2.2.2.2.2.2.2.2.2.2.1, g60.1, ((p60bbbfr 234 53 (by omega)).trans m8), m8b, (by have z := evF_9 (E := x.1.1) (l := o.2.2.2.1); have z2 := evF_9 (E := x.1.1) (l := o.2.2.2.2.1); omega), hplr, (by omega), ?_⟩
    intro I76o L76o p76hR p76bg55 p76bbg53 p76bbbhcl2 p76bbbbfr p76bbbbbfrL
    refine hQ _ _ (zMs_x (if_pos (by omega)).symm (zMs_ra g60 p76hR p76bg55 p76bbg53 p76bbbhcl2 (fun c j h => p76bbbbfr c j (by omega) (by omega) (by omega) (by omega) (by omega) (by omega) (by omega) (by omega) (by omega) (by omega) (by omega) (by omega) (by omega) (by omega)) (fun c j h => p76bbbbbfrL c j (by omega)))) (fun c j h0 h1 h2 h3 h4 h5 h6 h7 h8 h9 h10 h11 h12 h13 h14 h15 => ((p76bbbbfr c j h0 h2 h4 h5 h6 h7 h8 h9 h10 h11 h12 h13 h14 h15).trans ((p60bbbfr c j h3).trans rfl))) (fun c j h0 h1 h2 h3 h4 => ((p76bbbbbfrL c j h0).trans ((p60bbbbfrL c j h3 h4).trans rfl))))
def T_G_ac13 : ZT := fun args I L R S Q => ∃ (g : Nat) (lim : Nat) (x : MsT) (i : Nat) (kc : Nat) (o : OrT) (b : Int), args = [zvr 234, zvi 13, zvi b] ∧ (zSh S) ∧ (zRs R) ∧ (I 234 3 = g) ∧ (g ≤ 1) ∧ (zMs g lim x I L) ∧ (zOr g kc i o I) ∧ (I 234 51 = o.2.1) ∧ (kc ≤ 1000) ∧ (i ≤ 599) ∧ (b = 600 * g + i) ∧ (o.1 = 13) ∧ ∀ (I' : ZI) (L' : ZI), (zMs g lim (if evF x.1.1 o.2.2.2.2.1 ≠ 0 then mRa (evF x.1.1 o.2.2.2.2.1) o.2.1 0 x else (if x.1.1.2.1 = 12 then mRa 3 o.2.1 0 x else mE x (evNw x.1.1 (evV x.1.1 o.2.2.2.2.1)))) I' L') → (∀ c j : Nat, ¬ (c = 234 ∧ j = 28) → ¬ (c = 234 ∧ j = 30) → ¬ (c = 234 ∧ j = 44) → ¬ (c = 234 ∧ j = 66) → ¬ (c = 234 ∧ j = 53) → ¬ (c = 234 ∧ j = 55) → ¬ (c = 234 ∧ j = 46) → ¬ (c = 234 ∧ j = 47) → ¬ (c = 234 ∧ j = 48) → ¬ (c = 234 ∧ j = 49) → ¬ (c = 234 ∧ j = 50) → ¬ (c = 234 ∧ j = 52) → ¬ c = 259 → ¬ c = 262 → ¬ c = 263 → ¬ c = 264 → I' c j = I c j) → (∀ c j : Nat, ¬ c = 251 → ¬ c = 252 → ¬ c = 253 → ¬ c = 267 → ¬ (c = 234 ∧ j = 65) → L' c j = L c j) → Q none I' L' R S
theorem sn_G_ac13 : ZSnd 4 12 0 T_G_ac13 := ZSnd.of (zT12_0 3) (by
  rintro args I L R S Q hz ⟨g, lim, x, i, kc, o, b, rfl, hS, hR, h3, hg, hM, hO, h51, hkc, hi6, hb, hk1, hQ⟩
  obtain ⟨m1, m2, m3, m4, m5, m6, m7, ⟨m8, m8b⟩, m9, ⟨m10, m10b⟩, m11, m12, m13⟩ := id hM
  obtain ⟨hV1, ⟨hV2, hV2b⟩, hV3, ⟨hV4, hV4b⟩, hV5⟩ := id m1
  have hplr : r32 o.2.1 := by rw [← h51]; exact hz.1 234 51
  obtain ⟨q2, s1, s2, s3, s4⟩ := hO.2.2 (by unfold hsL; omega)
  refine And.intro rfl ?_
  refine And.intro ⟨(zRb rfl), (zRb rfl)⟩ (zbt rfl ?_)
  refine And.intro ⟨(zRb rfl), (zRb rfl)⟩ (zbt rfl ?_)
  refine And.intro (zA_234 hS) (zrdR (v := some 242) (zR_234_10 hR) ?_)
  refine And.intro (zP_242 hS (by omega) (by omega)) (fun v59 e59 r59 => ?_)
  have f59 : v59 = q2 := (e59.trans ((congrArg (I 242) (by omega)).trans s1))
  refine And.intro (zA_234 hS) ⟨_, sn_G_ask.up (by decide), ?_⟩
  refine ⟨g, q2, o.2.2.2.2.1, x.1.1, (v59 : Int), rfl, hS, hR, h3, (by omega), s3, s4, m1, (by omega), (by omega), ?_⟩
  intro v60o I60o L60o p60hv p60bh66 p60bbh65 p60bbbfr p60bbbbfrL
  have g60 : zMs g lim x I60o L60o := (zMs_fr hM (fun c j h => by unfold msK at h; exact p60bbbfr c j (by omega)) (fun c j h => p60bbbbfrL c j (by omega) (by omega)))
  refine And.intro (by omega) ⟨fun h63 => ?_, fun h63 => ?_⟩
  · refine And.intro ⟨(zRb rfl), (zRb rfl)⟩ (zbt rfl ?_)
    refine And.intro ⟨(zRb rfl), (zRb rfl)⟩ (zbt rfl ?_)
    refine And.intro ⟨(zRb rfl), (zRb rfl)⟩ (zbf rfl ?_)
    refine And.intro (zA_234 hS) (fun v154 e154 r154 => ?_)
    have f154 : v154 = evV x.1.1 o.2.2.2.2.1 := (e154.trans (p60bbh65 (by omega)))
    rcases (show x.1.1.2.1 < 12 ∨ x.1.1.2.1 = 12 by omega) with hnf | hnf
    · refine And.intro (zA_234 hS) ⟨_, sn_G_addY.up (by decide), ?_⟩
      refine ⟨x.1.1, (v154 : Int), rfl, hS, hR, g60.1, (by omega), (by clear hQ; grind [xu]), ?_⟩
      intro v157o I157o L157o p157hv p157bhV2 p157bbfr p157bbbfrL
      refine And.intro ⟨(by omega), (zRb rfl)⟩ ⟨fun h161 => ?_, fun h161 => ?_⟩
      · refine hQ _ _ (zMs_x (if_neg (by omega)).symm (zMs_x (if_neg (by omega)).symm (zMs_E g60 (by rw [← f154]; exact p157bhV2) (fun c j h => by unfold msK at h; exact p157bbfr c j (by omega)) (fun c j h => p157bbbfrL c j (by omega))))) (fun c j h0 h1 h2 h3 h4 h5 h6 h7 h8 h9 h10 h11 h12 h13 h14 h15 => ((p157bbfr c j h0).trans ((p60bbbfr c j h3).trans rfl))) (fun c j h0 h1 h2 h3 h4 => ((p157bbbfrL c j h0).trans ((p60bbbbfrL c j h3 h4).trans rfl)))
      · exact False.elim (by omega)
    · refine And.intro (zA_234 hS) ⟨_, sn_G_addN.up (by decide), ?_⟩
      refine ⟨x.1.1, (v154 : Int), rfl, hS, hR, g60.1, (by omega), ?_⟩
      refine And.intro ⟨(zRb rfl), (zRb rfl)⟩ (zbf rfl ?_)
      refine And.intro (zA_234 hS) (zrd (v := (o.2.1)) ((p60bbbfr 234 51 (by omega)).trans h51) ?_)
      refine And.intro (zA_234 hS) ⟨_, sn_G_rai.up (by decide), ?_⟩
      refine ⟨x.2.2.2.2.2.2.2, x.1.1, x.2.2.2.2.2.1, (3 : Int), ((o.2.1) : Int), (0 : Int), rfl, hS, hR, (Eq.trans (b := ((x.2.2.2.2.2.2.2.length) : Int)) ((p60bbbfr 234 55 (by omega)).trans m10) (by omega)), (by omega), g60.2.2.2.2.2.2.2.2.2.2.1, g60.1, ((p60bbbfr 234 53 (by omega)).trans m8), m8b, (by omega), hplr, (by omega), ?_⟩
      intro I171o L171o p171hR p171bg55 p171bbg53 p171bbbhcl2 p171bbbbfr p171bbbbbfrL
      refine hQ _ _ (zMs_x (if_neg (by omega)).symm (zMs_x (if_pos hnf).symm (zMs_ra g60 p171hR p171bg55 p171bbg53 p171bbbhcl2 (fun c j h => p171bbbbfr c j (by omega) (by omega) (by omega) (by omega) (by omega) (by omega) (by omega) (by omega) (by omega) (by omega) (by omega) (by omega) (by omega) (by omega)) (fun c j h => p171bbbbbfrL c j (by omega))))) (fun c j h0 h1 h2 h3 h4 h5 h6 h7 h8 h9 h10 h11 h12 h13 h14 h15 => ((p171bbbbfr c j h0 h2 h4 h5 h6 h7 h8 h9 h10 h11 h12 h13 h14 h15).trans ((p60bbbfr c j h3).trans rfl))) (fun c j h0 h1 h2 h3 h4 => ((p171bbbbbfrL c j h0).trans ((p60bbbbfrL c j h3 h4).trans rfl)))
  · refine And.intro (zA_234 hS) (zrd (v := ((evF (x.1.1) (o.2.2.2.2.1) : Nat))) p60bh66 ?_)
    refine And.intro (zA_234 hS) (zrd (v := (o.2.1)) ((p60bbbfr 234 51 (by omega)).trans h51) ?_)
    refine And.intro (zA_234 hS) ⟨_, sn_G_rai.up (by decide), ?_⟩
    refine ⟨x.2.2.2.2.2.2.2, x.1.1, x.2.2.2.2.2.1, (((evF (x.1.1) (o.2.2.2.2.1) : Nat)) : Int), ((o.2.1) : Int), (0 : Int), rfl, hS, hR, (Eq.trans (b := ((x.2.2.2.2.2.2.2.length) : Int)) ((p60bbbfr 234 55 (by omega)).trans m10) (by omega)), (by omega), g60.2.2.2.2.2.2.2.2.2.2.1, g60.1, ((p60bbbfr 234 53 (by omega)).trans m8), m8b, (by have z := evF_9 (E := x.1.1) (l := o.2.2.2.1); have z2 := evF_9 (E := x.1.1) (l := o.2.2.2.2.1); omega), hplr, (by omega), ?_⟩
    intro I76o L76o p76hR p76bg55 p76bbg53 p76bbbhcl2 p76bbbbfr p76bbbbbfrL
    refine hQ _ _ (zMs_x (if_pos (by omega)).symm (zMs_ra g60 p76hR p76bg55 p76bbg53 p76bbbhcl2 (fun c j h => p76bbbbfr c j (by omega) (by omega) (by omega) (by omega) (by omega) (by omega) (by omega) (by omega) (by omega) (by omega) (by omega) (by omega) (by omega) (by omega)) (fun c j h => p76bbbbbfrL c j (by omega)))) (fun c j h0 h1 h2 h3 h4 h5 h6 h7 h8 h9 h10 h11 h12 h13 h14 h15 => ((p76bbbbfr c j h0 h2 h4 h5 h6 h7 h8 h9 h10 h11 h12 h13 h14 h15).trans ((p60bbbfr c j h3).trans rfl))) (fun c j h0 h1 h2 h3 h4 => ((p76bbbbbfrL c j h0).trans ((p60bbbbfrL c j h3 h4).trans rfl))))
def T_G_ac16 : ZT := fun args I L R S Q => ∃ (g : Nat) (lim : Nat) (x : MsT) (i : Nat) (kc : Nat) (o : OrT) (b : Int), args = [zvr 234, zvi 16, zvi b] ∧ (zSh S) ∧ (zRs R) ∧ (I 234 3 = g) ∧ (g ≤ 1) ∧ (zMs g lim x I L) ∧ (zOr g kc i o I) ∧ (I 234 51 = o.2.1) ∧ (kc ≤ 1000) ∧ (i ≤ 599) ∧ (b = 600 * g + i) ∧ (o.1 = 16) ∧ ∀ (I' : ZI) (L' : ZI), (zMs g lim (if evF x.1.1 o.2.2.2.2.1 ≠ 0 then mRa (evF x.1.1 o.2.2.2.2.1) o.2.1 0 x else (if evV x.1.1 o.2.2.2.2.1 < 0 ∨ 20 < evV x.1.1 o.2.2.2.2.1 then mRa 3 o.2.1 0 x else mE x (evLn x.1.1 (evV x.1.1 o.2.2.2.2.1).toNat))) I' L') → (∀ c j : Nat, ¬ (c = 234 ∧ j = 28) → ¬ (c = 234 ∧ j = 30) → ¬ (c = 234 ∧ j = 44) → ¬ (c = 234 ∧ j = 66) → ¬ (c = 234 ∧ j = 53) → ¬ (c = 234 ∧ j = 55) → ¬ (c = 234 ∧ j = 46) → ¬ (c = 234 ∧ j = 47) → ¬ (c = 234 ∧ j = 48) → ¬ (c = 234 ∧ j = 49) → ¬ (c = 234 ∧ j = 50) → ¬ (c = 234 ∧ j = 52) → ¬ c = 259 → ¬ c = 262 → ¬ c = 263 → ¬ c = 264 → I' c j = I c j) → (∀ c j : Nat, ¬ c = 251 → ¬ c = 252 → ¬ c = 253 → ¬ c = 267 → ¬ (c = 234 ∧ j = 65) → L' c j = L c j) → Q none I' L' R S
theorem sn_G_ac16 : ZSnd 4 12 0 T_G_ac16 := ZSnd.of (zT12_0 3) (by
  rintro args I L R S Q hz ⟨g, lim, x, i, kc, o, b, rfl, hS, hR, h3, hg, hM, hO, h51, hkc, hi6, hb, hk1, hQ⟩
  obtain ⟨m1, m2, m3, m4, m5, m6, m7, ⟨m8, m8b⟩, m9, ⟨m10, m10b⟩, m11, m12, m13⟩ := id hM
  obtain ⟨hV1, ⟨hV2, hV2b⟩, hV3, ⟨hV4, hV4b⟩, hV5⟩ := id m1
  have hplr : r32 o.2.1 := by rw [← h51]; exact hz.1 234 51
  obtain ⟨q2, s1, s2, s3, s4⟩ := hO.2.2 (by unfold hsL; omega)
  refine And.intro rfl ?_
  refine And.intro ⟨(zRb rfl), (zRb rfl)⟩ (zbt rfl ?_)
  refine And.intro ⟨(zRb rfl), (zRb rfl)⟩ (zbt rfl ?_)
  refine And.intro (zA_234 hS) (zrdR (v := some 242) (zR_234_10 hR) ?_)
  refine And.intro (zP_242 hS (by omega) (by omega)) (fun v59 e59 r59 => ?_)
  have f59 : v59 = q2 := (e59.trans ((congrArg (I 242) (by omega)).trans s1))
  refine And.intro (zA_234 hS) ⟨_, sn_G_ask.up (by decide), ?_⟩
  refine ⟨g, q2, o.2.2.2.2.1, x.1.1, (v59 : Int), rfl, hS, hR, h3, (by omega), s3, s4, m1, (by omega), (by omega), ?_⟩
  intro v60o I60o L60o p60hv p60bh66 p60bbh65 p60bbbfr p60bbbbfrL
  have g60 : zMs g lim x I60o L60o := (zMs_fr hM (fun c j h => by unfold msK at h; exact p60bbbfr c j (by omega)) (fun c j h => p60bbbbfrL c j (by omega) (by omega)))
  refine And.intro (by omega) ⟨fun h63 => ?_, fun h63 => ?_⟩
  · refine And.intro ⟨(zRb rfl), (zRb rfl)⟩ (zbt rfl ?_)
    refine And.intro ⟨(zRb rfl), (zRb rfl)⟩ (zbt rfl ?_)
    refine And.intro ⟨(zRb rfl), (zRb rfl)⟩ (zbt rfl ?_)
    refine And.intro ⟨(zRb rfl), (zRb rfl)⟩ (zbf rfl ?_)
    refine And.intro (zA_234 hS) (fun v185 e185 r185 => ?_)
    have f185 : v185 = evV x.1.1 o.2.2.2.2.1 := (e185.trans (p60bbh65 (by omega)))
    rcases (show (0 ≤ v185 ∧ v185 ≤ 20) ∨ (v185 < 0 ∨ 20 < v185) by omega) with hnf | hnf
    · refine And.intro (zA_234 hS) ⟨_, sn_G_mlY.up (by decide), ?_⟩
      refine ⟨x.1.1, (v185 : Int), rfl, hS, hR, g60.1, (by omega), ?_⟩
      intro I188o L188o p188hV2 p188bfr p188bbfrL
      refine And.intro (zRb rfl) (zbt rfl ?_)
      refine hQ _ _ (zMs_x (if_neg (by omega)).symm (zMs_x (if_neg (by omega)).symm (zMs_E g60 (by rw [← f185]; exact p188hV2) (fun c j h => by unfold msK at h; exact p188bfr c j (by omega)) (fun c j h => p188bbfrL c j (by omega))))) (fun c j h0 h1 h2 h3 h4 h5 h6 h7 h8 h9 h10 h11 h12 h13 h14 h15 => ((p188bfr c j h1).trans ((p60bbbfr c j h3).trans rfl))) (fun c j h0 h1 h2 h3 h4 => ((p188bbfrL c j h1).trans ((p60bbbbfrL c j h3 h4).trans rfl)))
    · refine And.intro (zA_234 hS) ⟨_, sn_G_mlN.up (by decide), ?_⟩
      refine ⟨(v185 : Int), rfl, hS, hR, (by omega), hnf, ?_⟩
      refine And.intro (zRb rfl) (zbf rfl ?_)
      refine And.intro (zA_234 hS) (zrd (v := (o.2.1)) ((p60bbbfr 234 51 (by omega)).trans h51) ?_)
      refine And.intro (zA_234 hS) ⟨_, sn_G_rai.up (by decide), ?_⟩
      refine ⟨x.2.2.2.2.2.2.2, x.1.1, x.2.2.2.2.2.1, (3 : Int), ((o.2.1) : Int), (0 : Int), rfl, hS, hR, (Eq.trans (b := ((x.2.2.2.2.2.2.2.length) : Int)) ((p60bbbfr 234 55 (by omega)).trans m10) (by omega)), (by omega), g60.2.2.2.2.2.2.2.2.2.2.1, g60.1, ((p60bbbfr 234 53 (by omega)).trans m8), m8b, (by omega), hplr, (by omega), ?_⟩
      intro I201o L201o p201hR p201bg55 p201bbg53 p201bbbhcl2 p201bbbbfr p201bbbbbfrL
      refine hQ _ _ (zMs_x (if_neg (by omega)).symm (zMs_x (if_pos (by omega)).symm (zMs_ra g60 p201hR p201bg55 p201bbg53 p201bbbhcl2 (fun c j h => p201bbbbfr c j (by omega) (by omega) (by omega) (by omega) (by omega) (by omega) (by omega) (by omega) (by omega) (by omega) (by omega) (by omega) (by omega) (by omega)) (fun c j h => p201bbbbbfrL c j (by omega))))) (fun c j h0 h1 h2 h3 h4 h5 h6 h7 h8 h9 h10 h11 h12 h13 h14 h15 => ((p201bbbbfr c j h0 h2 h4 h5 h6 h7 h8 h9 h10 h11 h12 h13 h14 h15).trans ((p60bbbfr c j h3).trans rfl))) (fun c j h0 h1 h2 h3 h4 => ((p201bbbbbfrL c j h0).trans ((p60bbbbfrL c j h3 h4).trans rfl)))
  · refine And.intro (zA_234 hS) (zrd (v := ((evF (x.1.1) (o.2.2.2.2.1) : Nat))) p60bh66 ?_)
    refine And.intro (zA_234 hS) (zrd (v := (o.2.1)) ((p60bbbfr 234 51 (by omega)).trans h51) ?_)
    refine And.intro (zA_234 hS) ⟨_, sn_G_rai.up (by decide), ?_⟩
    refine ⟨x.2.2.2.2.2.2.2, x.1.1, x.2.2.2.2.2.1, (((evF (x.1.1) (o.2.2.2.2.1) : Nat)) : Int), ((o.2.1) : Int), (0 : Int), rfl, hS, hR, (Eq.trans (b := ((x.2.2.2.2.2.2.2.length) : Int)) ((p60bbbfr 234 55 (by omega)).trans m10) (by omega)), (by omega), g60.2.2.2.2.2.2.2.2.2.2.1, g60.1, ((p60bbbfr 234 53 (by omega)).trans m8), m8b, (by have z := evF_9 (E := x.1.1) (l := o.2.2.2.1); have z2 := evF_9 (E := x.1.1) (l := o.2.2.2.2.1); omega), hplr, (by omega), ?_⟩
    intro I76o L76o p76hR p76bg55 p76bbg53 p76bbbhcl2 p76bbbbfr p76bbbbbfrL
    refine hQ _ _ (zMs_x (if_pos (by omega)).symm (zMs_ra g60 p76hR p76bg55 p76bbg53 p76bbbhcl2 (fun c j h => p76bbbbfr c j (by omega) (by omega) (by omega) (by omega) (by omega) (by omega) (by omega) (by omega) (by omega) (by omega) (by omega) (by omega) (by omega) (by omega)) (fun c j h => p76bbbbbfrL c j (by omega)))) (fun c j h0 h1 h2 h3 h4 h5 h6 h7 h8 h9 h10 h11 h12 h13 h14 h15 => ((p76bbbbfr c j h0 h2 h4 h5 h6 h7 h8 h9 h10 h11 h12 h13 h14 h15).trans ((p60bbbfr c j h3).trans rfl))) (fun c j h0 h1 h2 h3 h4 => ((p76bbbbbfrL c j h0).trans ((p60bbbbfrL c j h3 h4).trans rfl))))
def T_G_ac5 : ZT := fun args I L R S Q => ∃ (g : Nat) (lim : Nat) (x : MsT) (i : Nat) (kc : Nat) (o : OrT) (b : Int), args = [zvr 234, zvi 5, zvi b] ∧ (zSh S) ∧ (zRs R) ∧ (I 234 3 = g) ∧ (g ≤ 1) ∧ (zMs g lim x I L) ∧ (zOr g kc i o I) ∧ (I 234 51 = o.2.1) ∧ (kc ≤ 1000) ∧ (i ≤ 599) ∧ (b = 600 * g + i) ∧ (o.1 = 5) ∧ ∀ (I' : ZI) (L' : ZI), (zMs g lim (if evF x.1.1 o.2.2.2.2.1 ≠ 0 then mRa (evF x.1.1 o.2.2.2.2.1) o.2.1 0 x else (if evV x.1.1 o.2.2.2.2.1 = 0 then mNx x o.2.2.2.2.2 else x)) I' L') → (∀ c j : Nat, ¬ (c = 234 ∧ j = 28) → ¬ (c = 234 ∧ j = 30) → ¬ (c = 234 ∧ j = 44) → ¬ (c = 234 ∧ j = 66) → ¬ (c = 234 ∧ j = 53) → ¬ (c = 234 ∧ j = 55) → ¬ (c = 234 ∧ j = 46) → ¬ (c = 234 ∧ j = 47) → ¬ (c = 234 ∧ j = 48) → ¬ (c = 234 ∧ j = 49) → ¬ (c = 234 ∧ j = 50) → ¬ (c = 234 ∧ j = 52) → ¬ c = 259 → ¬ c = 262 → ¬ c = 263 → ¬ c = 264 → I' c j = I c j) → (∀ c j : Nat, ¬ c = 251 → ¬ c = 252 → ¬ c = 253 → ¬ c = 267 → ¬ (c = 234 ∧ j = 65) → L' c j = L c j) → Q none I' L' R S
theorem sn_G_ac5 : ZSnd 4 12 0 T_G_ac5 := ZSnd.of (zT12_0 3) (by
  rintro args I L R S Q hz ⟨g, lim, x, i, kc, o, b, rfl, hS, hR, h3, hg, hM, hO, h51, hkc, hi6, hb, hk1, hQ⟩
  obtain ⟨m1, m2, m3, m4, m5, m6, m7, ⟨m8, m8b⟩, m9, ⟨m10, m10b⟩, m11, m12, m13⟩ := id hM
  obtain ⟨hV1, ⟨hV2, hV2b⟩, hV3, ⟨hV4, hV4b⟩, hV5⟩ := id m1
  have hplr : r32 o.2.1 := by rw [← h51]; exact hz.1 234 51
  obtain ⟨q2, s1, s2, s3, s4⟩ := hO.2.2 (by unfold hsL; omega)
  refine And.intro rfl ?_
  refine And.intro ⟨(zRb rfl), (zRb rfl)⟩ (zbt rfl ?_)
  refine And.intro ⟨(zRb rfl), (zRb rfl)⟩ (zbt rfl ?_)
  refine And.intro (zA_234 hS) (zrdR (v := some 242) (zR_234_10 hR) ?_)
  refine And.intro (zP_242 hS (by omega) (by omega)) (fun v59 e59 r59 => ?_)
  have f59 : v59 = q2 := (e59.trans ((congrArg (I 242) (by omega)).trans s1))
  refine And.intro (zA_234 hS) ⟨_, sn_G_ask.up (by decide), ?_⟩
  refine ⟨g, q2, o.2.2.2.2.1, x.1.1, (v59 : Int), rfl, hS, hR, h3, (by omega), s3, s4, m1, (by omega), (by omega), ?_⟩
  intro v60o I60o L60o p60hv p60bh66 p60bbh65 p60bbbfr p60bbbbfrL
  have g60 : zMs g lim x I60o L60o := (zMs_fr hM (fun c j h => by unfold msK at h; exact p60bbbfr c j (by omega)) (fun c j h => p60bbbbfrL c j (by omega) (by omega)))
  refine And.intro (by omega) ⟨fun h63 => ?_, fun h63 => ?_⟩
  · refine And.intro ⟨(zRb rfl), (zRb rfl)⟩ (zbt rfl ?_)
    refine And.intro ⟨(zRb rfl), (zRb rfl)⟩ (zbt rfl ?_)
    refine And.intro ⟨(zRb rfl), (zRb rfl)⟩ (zbt rfl ?_)
    refine And.intro ⟨(zRb rfl), (zRb rfl)⟩ (zbt rfl ?_)
    refine And.intro (zA_234 hS) (fun v208 e208 r208 => ?_)
    have f208 : v208 = evV x.1.1 o.2.2.2.2.1 := (e208.trans (p60bbh65 (by omega)))
    refine ⟨_, _, ⟨zW6i r208, zW6i (zRL rfl)⟩, fun z212 c212 => ?_⟩
    refine And.intro c212.2.2 ⟨fun h213 => ?_, fun h213 => ?_⟩
    · have k213 : v208 ≠ 0 := by omega
      clear h213 c212
      refine hQ _ _ (zMs_x (if_neg (by omega)).symm (zMs_x (if_neg (by omega)).symm g60)) (fun c j h0 h1 h2 h3 h4 h5 h6 h7 h8 h9 h10 h11 h12 h13 h14 h15 => ((p60bbbfr c j h3).trans rfl)) (fun c j h0 h1 h2 h3 h4 => ((p60bbbbfrL c j h3 h4).trans rfl))
    · have k213b : v208 = 0 := by omega
      clear h213 c212
      refine And.intro (zA_234 hS) (zrdR (v := some 243) (zR_234_11 hR) ?_)
      refine And.intro (zP_243 hS (by omega) (by omega)) (fun v222 e222 r222 => ?_)
      have f222 : v222 = o.2.2.2.2.2 := (e222.trans (((p60bbbfr 243 _ (by omega)).trans rfl).trans ((congrArg (I 243) (by omega)).trans hO.1.2.2.2)))
      refine And.intro (zA_234 hS) ⟨_, (zWi r222), ?_⟩
      refine hQ _ _ (zMs_x (if_neg (by omega)).symm (zMs_x (if_pos (by omega)).symm (zMs_n g60 (zxe.trans f222) (fun c j h => zxcj h rfl)))) (fun c j h0 h1 h2 h3 h4 h5 h6 h7 h8 h9 h10 h11 h12 h13 h14 h15 => (zxcj h11 ((p60bbbfr c j h3).trans rfl))) (fun c j h0 h1 h2 h3 h4 => ((p60bbbbfrL c j h3 h4).trans rfl))
  · refine And.intro (zA_234 hS) (zrd (v := ((evF (x.1.1) (o.2.2.2.2.1) : Nat))) p60bh66 ?_)
    refine And.intro (zA_234 hS) (zrd (v := (o.2.1)) ((p60bbbfr 234 51 (by omega)).trans h51) ?_)
    refine And.intro (zA_234 hS) ⟨_, sn_G_rai.up (by decide), ?_⟩
    refine ⟨x.2.2.2.2.2.2.2, x.1.1, x.2.2.2.2.2.1, (((evF (x.1.1) (o.2.2.2.2.1) : Nat)) : Int), ((o.2.1) : Int), (0 : Int), rfl, hS, hR, (Eq.trans (b := ((x.2.2.2.2.2.2.2.length) : Int)) ((p60bbbfr 234 55 (by omega)).trans m10) (by omega)), (by omega), g60.2.2.2.2.2.2.2.2.2.2.1, g60.1, ((p60bbbfr 234 53 (by omega)).trans m8), m8b, (by have z := evF_9 (E := x.1.1) (l := o.2.2.2.1); have z2 := evF_9 (E := x.1.1) (l := o.2.2.2.2.1); omega), hplr, (by omega), ?_⟩
    intro I76o L76o p76hR p76bg55 p76bbg53 p76bbbhcl2 p76bbbbfr p76bbbbbfrL
    refine hQ _ _ (zMs_x (if_pos (by omega)).symm (zMs_ra g60 p76hR p76bg55 p76bbg53 p76bbbhcl2 (fun c j h => p76bbbbfr c j (by omega) (by omega) (by omega) (by omega) (by omega) (by omega) (by omega) (by omega) (by omega) (by omega) (by omega) (by omega) (by omega) (by omega)) (fun c j h => p76bbbbbfrL c j (by omega)))) (fun c j h0 h1 h2 h3 h4 h5 h6 h7 h8 h9 h10 h11 h12 h13 h14 h15 => ((p76bbbbfr c j h0 h2 h4 h5 h6 h7 h8 h9 h10 h11 h12 h13 h14 h15).trans ((p60bbbfr c j h3).trans rfl))) (fun c j h0 h1 h2 h3 h4 => ((p76bbbbbfrL c j h0).trans ((p60bbbbfrL c j h3 h4).trans rfl))))
def T_G_ac6 : ZT := fun args I L R S Q => ∃ (g : Nat) (lim : Nat) (x : MsT) (i : Nat) (kc : Nat) (o : OrT) (b : Int), args = [zvr 234, zvi 6, zvi b] ∧ (zSh S) ∧ (zRs R) ∧ (I 234 3 = g) ∧ (g ≤ 1) ∧ (zMs g lim x I L) ∧ (zOr g kc i o I) ∧ (I 234 51 = o.2.1) ∧ (kc ≤ 1000) ∧ (i ≤ 599) ∧ (b = 600 * g + i) ∧ (o.1 = 6) ∧ ∀ (I' : ZI) (L' : ZI), (zMs g lim (if evF x.1.1 o.2.2.2.2.1 ≠ 0 then mRa (evF x.1.1 o.2.2.2.2.1) o.2.1 0 x else (if evV x.1.1 o.2.2.2.2.1 = 0 then mNx x o.2.2.2.2.2 else x)) I' L') → (∀ c j : Nat, ¬ (c = 234 ∧ j = 28) → ¬ (c = 234 ∧ j = 30) → ¬ (c = 234 ∧ j = 44) → ¬ (c = 234 ∧ j = 66) → ¬ (c = 234 ∧ j = 53) → ¬ (c = 234 ∧ j = 55) → ¬ (c = 234 ∧ j = 46) → ¬ (c = 234 ∧ j = 47) → ¬ (c = 234 ∧ j = 48) → ¬ (c = 234 ∧ j = 49) → ¬ (c = 234 ∧ j = 50) → ¬ (c = 234 ∧ j = 52) → ¬ c = 259 → ¬ c = 262 → ¬ c = 263 → ¬ c = 264 → I' c j = I c j) → (∀ c j : Nat, ¬ c = 251 → ¬ c = 252 → ¬ c = 253 → ¬ c = 267 → ¬ (c = 234 ∧ j = 65) → L' c j = L c j) → Q none I' L' R S
theorem sn_G_ac6 : ZSnd 4 12 0 T_G_ac6 := ZSnd.of (zT12_0 3) (by
  rintro args I L R S Q hz ⟨g, lim, x, i, kc, o, b, rfl, hS, hR, h3, hg, hM, hO, h51, hkc, hi6, hb, hk1, hQ⟩
  obtain ⟨m1, m2, m3, m4, m5, m6, m7, ⟨m8, m8b⟩, m9, ⟨m10, m10b⟩, m11, m12, m13⟩ := id hM
  obtain ⟨hV1, ⟨hV2, hV2b⟩, hV3, ⟨hV4, hV4b⟩, hV5⟩ := id m1
  have hplr : r32 o.2.1 := by rw [← h51]; exact hz.1 234 51
  obtain ⟨q2, s1, s2, s3, s4⟩ := hO.2.2 (by unfold hsL; omega)
  refine And.intro rfl ?_
  refine And.intro ⟨(zRb rfl), (zRb rfl)⟩ (zbt rfl ?_)
  refine And.intro ⟨(zRb rfl), (zRb rfl)⟩ (zbt rfl ?_)
  refine And.intro (zA_234 hS) (zrdR (v := some 242) (zR_234_10 hR) ?_)
  refine And.intro (zP_242 hS (by omega) (by omega)) (fun v59 e59 r59 => ?_)
  have f59 : v59 = q2 := (e59.trans ((congrArg (I 242) (by omega)).trans s1))
  refine And.intro (zA_234 hS) ⟨_, sn_G_ask.up (by decide), ?_⟩
  refine ⟨g, q2, o.2.2.2.2.1, x.1.1, (v59 : Int), rfl, hS, hR, h3, (by omega), s3, s4, m1, (by omega), (by omega), ?_⟩
  intro v60o I60o L60o p60hv p60bh66 p60bbh65 p60bbbfr p60bbbbfrL
  have g60 : zMs g lim x I60o L60o := (zMs_fr hM (fun c j h => by unfold msK at h; exact p60bbbfr c j (by omega)) (fun c j h => p60bbbbfrL c j (by omega) (by omega)))
  refine And.intro (by omega) ⟨fun h63 => ?_, fun h63 => ?_⟩
  · refine And.intro ⟨(zRb rfl), (zRb rfl)⟩ (zbt rfl ?_)
    refine And.intro ⟨(zRb rfl), (zRb rfl)⟩ (zbt rfl ?_)
    refine And.intro ⟨(zRb rfl), (zRb rfl)⟩ (zbt rfl ?_)
    refine And.intro ⟨(zRb rfl), (zRb rfl)⟩ (zbt rfl ?_)
    refine And.intro (zA_234 hS) (fun v208 e208 r208 => ?_)
    have f208 : v208 = evV x.1.1 o.2.2.2.2.1 := (e208.trans (p60bbh65 (by omega)))
    refine ⟨_, _, ⟨zW6i r208, zW6i (zRL rfl)⟩, fun z212 c212 => ?_⟩
    refine And.intro c212.2.2 ⟨fun h213 => ?_, fun h213 => ?_⟩
    · have k213 : v208 ≠ 0 := by omega
      clear h213 c212
      refine hQ _ _ (zMs_x (if_neg (by omega)).symm (zMs_x (if_neg (by omega)).symm g60)) (fun c j h0 h1 h2 h3 h4 h5 h6 h7 h8 h9 h10 h11 h12 h13 h14 h15 => ((p60bbbfr c j h3).trans rfl)) (fun c j h0 h1 h2 h3 h4 => ((p60bbbbfrL c j h3 h4).trans rfl))
    · have k213b : v208 = 0 := by omega
      clear h213 c212
      refine And.intro (zA_234 hS) (zrdR (v := some 243) (zR_234_11 hR) ?_)
      refine And.intro (zP_243 hS (by omega) (by omega)) (fun v222 e222 r222 => ?_)
      have f222 : v222 = o.2.2.2.2.2 := (e222.trans (((p60bbbfr 243 _ (by omega)).trans rfl).trans ((congrArg (I 243) (by omega)).trans hO.1.2.2.2)))
      refine And.intro (zA_234 hS) ⟨_, (zWi r222), ?_⟩
      refine hQ _ _ (zMs_x (if_neg (by omega)).symm (zMs_x (if_pos (by omega)).symm (zMs_n g60 (zxe.trans f222) (fun c j h => zxcj h rfl)))) (fun c j h0 h1 h2 h3 h4 h5 h6 h7 h8 h9 h10 h11 h12 h13 h14 h15 => (zxcj h11 ((p60bbbfr c j h3).trans rfl))) (fun c j h0 h1 h2 h3 h4 => ((p60bbbbfrL c j h3 h4).trans rfl))
  · refine And.intro (zA_234 hS) (zrd (v := ((evF (x.1.1) (o.2.2.2.2.1) : Nat))) p60bh66 ?_)
    refine And.intro (zA_234 hS) (zrd (v := (o.2.1)) ((p60bbbfr 234 51 (by omega)).trans h51) ?_)
    refine And.intro (zA_234 hS) ⟨_, sn_G_rai.up (by decide), ?_⟩
    refine ⟨x.2.2.2.2.2.2.2, x.1.1, x.2.2.2.2.2.1, (((evF (x.1.1) (o.2.2.2.2.1) : Nat)) : Int), ((o.2.1) : Int), (0 : Int), rfl, hS, hR, (Eq.trans (b := ((x.2.2.2.2.2.2.2.length) : Int)) ((p60bbbfr 234 55 (by omega)).trans m10) (by omega)), (by omega), g60.2.2.2.2.2.2.2.2.2.2.1, g60.1, ((p60bbbfr 234 53 (by omega)).trans m8), m8b, (by have z := evF_9 (E := x.1.1) (l := o.2.2.2.1); have z2 := evF_9 (E := x.1.1) (l := o.2.2.2.2.1); omega), hplr, (by omega), ?_⟩
    intro I76o L76o p76hR p76bg55 p76bbg53 p76bbbhcl2 p76bbbbfr p76bbbbbfrL
    refine hQ _ _ (zMs_x (if_pos (by omega)).symm (zMs_ra g60 p76hR p76bg55 p76bbg53 p76bbbhcl2 (fun c j h => p76bbbbfr c j (by omega) (by omega) (by omega) (by omega) (by omega) (by omega) (by omega) (by omega) (by omega) (by omega) (by omega) (by omega) (by omega) (by omega)) (fun c j h => p76bbbbbfrL c j (by omega)))) (fun c j h0 h1 h2 h3 h4 h5 h6 h7 h8 h9 h10 h11 h12 h13 h14 h15 => ((p76bbbbfr c j h0 h2 h4 h5 h6 h7 h8 h9 h10 h11 h12 h13 h14 h15).trans ((p60bbbfr c j h3).trans rfl))) (fun c j h0 h1 h2 h3 h4 => ((p76bbbbbfrL c j h0).trans ((p60bbbbfrL c j h3 h4).trans rfl))))
