/-! tw -/
def T_G_st1 : ZT := fun args I L R S Q => ∃ (g : Nat) (lim : Nat) (x : MsT) (i : Nat) (kc : Nat) (o : OrT) (b : Int), args = [zvr 234, zvi 1, zvi b] ∧ (zSh S) ∧ (zRs R) ∧ (I 234 3 = g) ∧ (g ≤ 1) ∧ (zMs g lim x I L) ∧ (zOr g kc i o I) ∧ (I 234 51 = o.2.1) ∧ (kc ≤ 1000) ∧ (i ≤ 599) ∧ (b = 600 * g + i) ∧ (o.1 = 1) ∧ (0 ≤ o.2.2.1 ∧ o.2.2.1 < 26) ∧ ∀ (I' : ZI) (L' : ZI), (zMs g lim (if evF x.1.1 o.2.2.2.2.1 = 0 then mE x (evSv x.1.1 o.2.2.1.toNat (evV x.1.1 o.2.2.2.2.1)) else mRa (evF x.1.1 o.2.2.2.2.1) o.2.1 0 x) I' L') → (∀ c j : Nat, ¬ (c = 234 ∧ j = 28) → ¬ (c = 234 ∧ j = 30) → ¬ (c = 234 ∧ j = 44) → ¬ (c = 234 ∧ j = 66) → ¬ (c = 234 ∧ j = 53) → ¬ (c = 234 ∧ j = 55) → ¬ (c = 234 ∧ j = 46) → ¬ (c = 234 ∧ j = 47) → ¬ (c = 234 ∧ j = 48) → ¬ (c = 234 ∧ j = 49) → ¬ (c = 234 ∧ j = 50) → ¬ (c = 234 ∧ j = 52) → ¬ c = 259 → ¬ c = 262 → ¬ c = 263 → ¬ c = 264 → I' c j = I c j) → (∀ c j : Nat, ¬ c = 251 → ¬ c = 252 → ¬ c = 253 → ¬ c = 267 → ¬ (c = 234 ∧ j = 65) → L' c j = L c j) → Q none I' L' R S
theorem sn_G_st1 : ZSnd 3 12 51 T_G_st1 := ZSnd.of (zT12_51 2) (by
  rintro args I L R S Q hz ⟨g, lim, x, i, kc, o, b, rfl, hS, hR, h3, hg, hM, hO, h51, hkc, hi6, hb, hk1, hgv, hQ⟩
  obtain ⟨m1, m2, m3, m4, m5, m6, m7, ⟨m8, m8b⟩, m9, ⟨m10, m10b⟩, m11, m12, m13⟩ := id hM
  obtain ⟨hV1, ⟨hV2, hV2b⟩, hV3, ⟨hV4, hV4b⟩, hV5⟩ := id m1
  have hplr : r32 o.2.1 := by rw [← h51]; exact hz.1 234 51
  obtain ⟨q2, s1, s2, s3, s4⟩ := hO.2.2 (by unfold hsL; omega)
  refine And.intro rfl ?_
  refine And.intro ⟨(zRb rfl), (zRb rfl)⟩ (zbf rfl ?_)
  refine And.intro (zA_234 hS) (zrdR (v := some 242) (zR_234_10 hR) ?_)
  refine And.intro (zP_242 hS (by omega) (by omega)) (fun v11 e11 r11 => ?_)
  have f11 : v11 = q2 := (e11.trans ((congrArg (I 242) (by omega)).trans s1))
  refine And.intro (zA_234 hS) ⟨_, sn_G_ask.up (by decide), ?_⟩
  refine ⟨g, q2, o.2.2.2.2.1, x.1.1, (v11 : Int), rfl, hS, hR, h3, (by omega), s3, s4, m1, (by omega), (by omega), ?_⟩
  intro v12o I12o L12o p12hv p12bh66 p12bbh65 p12bbbfr p12bbbbfrL
  have g12 : zMs g lim x I12o L12o := (zMs_fr hM (fun c j h => by unfold msK at h; exact p12bbbfr c j (by omega)) (fun c j h => p12bbbbfrL c j (by omega) (by omega)))
  refine And.intro (by omega) ⟨fun h15 => ?_, fun h15 => ?_⟩
  · refine And.intro (zA_234 hS) (zrd (v := ((evF (x.1.1) (o.2.2.2.2.1) : Nat))) p12bh66 ?_)
    refine And.intro (zA_234 hS) (zrd (v := (o.2.1)) ((p12bbbfr 234 51 (by omega)).trans h51) ?_)
    refine And.intro (zA_234 hS) ⟨_, sn_G_rai.up (by decide), ?_⟩
    refine ⟨x.2.2.2.2.2.2.2, x.1.1, x.2.2.2.2.2.1, (((evF (x.1.1) (o.2.2.2.2.1) : Nat)) : Int), ((o.2.1) : Int), (0 : Int), rfl, hS, hR, (Eq.trans (b := ((x.2.2.2.2.2.2.2.length) : Int)) ((p12bbbfr 234 55 (by omega)).trans m10) (by omega)), (by omega), g12.2.2.2.2.2.2.2.2.2.2.1, g12.1, ((p12bbbfr 234 53 (by omega)).trans m8), m8b, (by have z := evF_9 (E := x.1.1) (l := o.2.2.2.1); have z2 := evF_9 (E := x.1.1) (l := o.2.2.2.2.1); omega), hplr, (by omega), ?_⟩
    intro I46o L46o p46hR p46bg55 p46bbg53 p46bbbhcl2 p46bbbbfr p46bbbbbfrL
    refine hQ _ _ (zMs_x (if_neg (by omega)).symm (zMs_ra g12 p46hR p46bg55 p46bbg53 p46bbbhcl2 (fun c j h => p46bbbbfr c j (by omega) (by omega) (by omega) (by omega) (by omega) (by omega) (by omega) (by omega) (by omega) (by omega) (by omega) (by omega) (by omega) (by omega)) (fun c j h => p46bbbbbfrL c j (by omega)))) (fun c j h0 h1 h2 h3 h4 h5 h6 h7 h8 h9 h10 h11 h12 h13 h14 h15 => ((p46bbbbfr c j h0 h2 h4 h5 h6 h7 h8 h9 h10 h11 h12 h13 h14 h15).trans ((p12bbbfr c j h3).trans rfl))) (fun c j h0 h1 h2 h3 h4 => ((p46bbbbbfrL c j h0).trans ((p12bbbbfrL c j h3 h4).trans rfl)))
  · refine And.intro (zA_234 hS) (zrdR (v := some 253) (zR_234_33 hR) ?_)
    refine And.intro (zA_234 hS) (zrdR (v := some 240) (zR_234_8 hR) ?_)
    refine And.intro (zP_240 hS (by omega) (by omega)) (fun v27 e27 r27 => ?_)
    have f27 : v27 = o.2.2.1 := (e27.trans (((p12bbbfr 240 _ (by omega)).trans rfl).trans ((congrArg (I 240) (by omega)).trans hO.1.2.2.1)))
    refine And.intro (zA_234 hS) (fun v29 e29 r29 => ?_)
    have f29 : v29 = evV x.1.1 o.2.2.2.2.1 := (e29.trans (p12bbh65 (by omega)))
    refine And.intro ⟨(zx0 rfl), (zP_253 hS (by omega) (by omega))⟩ ⟨_, zW6i r29, ?_⟩
    refine hQ _ _ (zMs_x (if_pos (by omega)).symm (zMs_E g12 (zRv_v g12.1 (fun c j h => rfl) (fun c j h => zxcj (by omega) rfl) ((zxe' (by omega)).trans f29)) (fun c j h => rfl) (fun c j h => zxu (by omega) rfl))) (fun c j h0 h1 h2 h3 h4 h5 h6 h7 h8 h9 h10 h11 h12 h13 h14 h15 => ((p12bbbfr c j h3).trans rfl)) (fun c j h0 h1 h2 h3 h4 => (zxu h2 ((p12bbbbfrL c j h3 h4).trans rfl))))
def T_G_st2 : ZT := fun args I L R S Q => ∃ (g : Nat) (lim : Nat) (x : MsT) (i : Nat) (kc : Nat) (o : OrT) (b : Int), args = [zvr 234, zvi 2, zvi b] ∧ (zSh S) ∧ (zRs R) ∧ (I 234 3 = g) ∧ (g ≤ 1) ∧ (zMs g lim x I L) ∧ (zOr g kc i o I) ∧ (I 234 51 = o.2.1) ∧ (kc ≤ 1000) ∧ (i ≤ 599) ∧ (b = 600 * g + i) ∧ (o.1 = 2) ∧ (0 ≤ o.2.2.1 ∧ o.2.2.1 ≤ 5) ∧ ∀ (I' : ZI) (L' : ZI), (zMs g lim (if evF x.1.1 o.2.2.2.1 ≠ 0 then mRa (evF x.1.1 o.2.2.2.1) o.2.1 0 x else if ¬ (0 ≤ evV x.1.1 o.2.2.2.1 ∧ evV x.1.1 o.2.2.2.1 < (x.1.1.2.1 : Int)) then mRa 2 o.2.1 0 x else if evF x.1.1 o.2.2.2.2.1 ≠ 0 then mRa (evF x.1.1 o.2.2.2.2.1) o.2.1 0 x else mE x (evSf x.1.1 (6 * (evV x.1.1 o.2.2.2.1).toNat + o.2.2.1.toNat) (evV x.1.1 o.2.2.2.2.1))) I' L') → (∀ c j : Nat, ¬ (c = 234 ∧ j = 28) → ¬ (c = 234 ∧ j = 30) → ¬ (c = 234 ∧ j = 44) → ¬ (c = 234 ∧ j = 66) → ¬ (c = 234 ∧ j = 53) → ¬ (c = 234 ∧ j = 55) → ¬ (c = 234 ∧ j = 46) → ¬ (c = 234 ∧ j = 47) → ¬ (c = 234 ∧ j = 48) → ¬ (c = 234 ∧ j = 49) → ¬ (c = 234 ∧ j = 50) → ¬ (c = 234 ∧ j = 52) → ¬ c = 259 → ¬ c = 262 → ¬ c = 263 → ¬ c = 264 → I' c j = I c j) → (∀ c j : Nat, ¬ c = 251 → ¬ c = 252 → ¬ c = 253 → ¬ c = 267 → ¬ (c = 234 ∧ j = 65) → L' c j = L c j) → Q none I' L' R S
set_option maxHeartbeats 4000000 in
theorem sn_G_st2 : ZSnd 3 12 51 T_G_st2 := ZSnd.of (zT12_51 2) (by
  rintro args I L R S Q hz ⟨g, lim, x, i, kc, o, b, rfl, hS, hR, h3, hg, hM, hO, h51, hkc, hi6, hb, hk1, hgv, hQ⟩
  obtain ⟨m1, m2, m3, m4, m5, m6, m7, ⟨m8, m8b⟩, m9, ⟨m10, m10b⟩, m11, m12, m13⟩ := id hM
  obtain ⟨hV1, ⟨hV2, hV2b⟩, hV3, ⟨hV4, hV4b⟩, hV5⟩ := id m1
  have hplr : r32 o.2.1 := by rw [← h51]; exact hz.1 234 51
  obtain ⟨q2, s1, s2, s3, s4⟩ := hO.2.2 (by unfold hsL; omega)
  obtain ⟨q1, u1, u2, u3, u4⟩ := hO.2.1 (by omega)
  refine And.intro rfl ?_
  refine And.intro ⟨(zRb rfl), (zRb rfl)⟩ (zbt rfl ?_)
  refine And.intro (zA_234 hS) (zrdR (v := some 241) (zR_234_9 hR) ?_)
  refine And.intro (zP_241 hS (by omega) (by omega)) (fun v56 e56 r56 => ?_)
  have f56 : v56 = q1 := (e56.trans ((congrArg (I 241) (by omega)).trans u1))
  refine And.intro (zA_234 hS) ⟨_, sn_G_ask.up (by decide), ?_⟩
  refine ⟨g, q1, o.2.2.2.1, x.1.1, (v56 : Int), rfl, hS, hR, h3, (by omega), u3, u4, m1, (by omega), (by omega), ?_⟩
  intro v57o I57o L57o p57hv p57bh66 p57bbh65 p57bbbfr p57bbbbfrL
  have g57 : zMs g lim x I57o L57o := (zMs_fr hM (fun c j h => by unfold msK at h; exact p57bbbfr c j (by omega)) (fun c j h => p57bbbbfrL c j (by omega) (by omega)))
  refine And.intro (zA_234 hS) (fun v62 e62 r62 => ?_)
  have f62 : evF x.1.1 o.2.2.2.1 = 0 → v62 = evV x.1.1 o.2.2.2.1 := (fun (h : evF x.1.1 o.2.2.2.1 = 0) => e62.trans (p57bbh65 h))
  refine And.intro ⟨(zRb rfl), (zRb rfl)⟩ (zbf rfl ?_)
  refine And.intro (zA_234 hS) (Exists.intro _ (And.intro (zinl_ok (zT12_28 1)) (And.intro rfl ?_)))
  refine ⟨_, _, ⟨zW6i r62, zW6i (zRL rfl)⟩, fun z2_75 c2_75 => ?_⟩
  refine And.intro c2_75.2.2 ⟨fun h3_75 => ?_, fun h3_75 => ?_⟩
  · have k3_75 : v62 < 0 := by omega
    clear h3_75 c2_75
    refine And.intro (Or.inl rfl) ?_
    refine And.intro (by omega) ⟨fun h107 => ?_, fun h107 => ?_⟩
    · have t107 : evF x.1.1 o.2.2.2.1 = 0 := (by omega)
      have t107b : v62 = evV x.1.1 o.2.2.2.1 := (f62 (by omega))
      refine And.intro (zRb rfl) (zbf rfl ?_)
      refine And.intro (zA_234 hS) (zrd (v := (o.2.1)) ((p57bbbfr 234 51 (by omega)).trans h51) ?_)
      refine And.intro (zA_234 hS) ⟨_, sn_G_rai.up (by decide), ?_⟩
      refine ⟨x.2.2.2.2.2.2.2, x.1.1, x.2.2.2.2.2.1, (2 : Int), ((o.2.1) : Int), (0 : Int), rfl, hS, hR, (Eq.trans (b := ((x.2.2.2.2.2.2.2.length) : Int)) ((p57bbbfr 234 55 (by omega)).trans m10) (by omega)), (by omega), g57.2.2.2.2.2.2.2.2.2.2.1, g57.1, ((p57bbbfr 234 53 (by omega)).trans m8), m8b, (by have z := evF_9 (E := x.1.1) (l := o.2.2.2.1); have z2 := evF_9 (E := x.1.1) (l := o.2.2.2.2.1); omega), hplr, (by omega), ?_⟩
      intro I138o L138o p138hR p138bg55 p138bbg53 p138bbbhcl2 p138bbbbfr p138bbbbbfrL
      refine hQ _ _ (zMs_x ((if_neg (by omega)).trans (if_pos (by omega))).symm (zMs_ra g57 p138hR p138bg55 p138bbg53 p138bbbhcl2 (fun c j h => p138bbbbfr c j (by omega) (by omega) (by omega) (by omega) (by omega) (by omega) (by omega) (by omega) (by omega) (by omega) (by omega) (by omega) (by omega) (by omega)) (fun c j h => p138bbbbbfrL c j (by omega)))) (fun c j h0 h1 h2 h3 h4 h5 h6 h7 h8 h9 h10 h11 h12 h13 h14 h15 => ((p138bbbbfr c j h0 h2 h4 h5 h6 h7 h8 h9 h10 h11 h12 h13 h14 h15).trans ((p57bbbfr c j h3).trans rfl))) (fun c j h0 h1 h2 h3 h4 => ((p138bbbbbfrL c j h0).trans ((p57bbbbfrL c j h3 h4).trans rfl)))
    · refine And.intro (zA_234 hS) (zrd (v := ((evF (x.1.1) (o.2.2.2.1) : Nat))) p57bh66 ?_)
      refine And.intro (zA_234 hS) (zrd (v := (o.2.1)) ((p57bbbfr 234 51 (by omega)).trans h51) ?_)
      refine And.intro (zA_234 hS) ⟨_, sn_G_rai.up (by decide), ?_⟩
      refine ⟨x.2.2.2.2.2.2.2, x.1.1, x.2.2.2.2.2.1, (((evF (x.1.1) (o.2.2.2.1) : Nat)) : Int), ((o.2.1) : Int), (0 : Int), rfl, hS, hR, (Eq.trans (b := ((x.2.2.2.2.2.2.2.length) : Int)) ((p57bbbfr 234 55 (by omega)).trans m10) (by omega)), (by omega), g57.2.2.2.2.2.2.2.2.2.2.1, g57.1, ((p57bbbfr 234 53 (by omega)).trans m8), m8b, (by have z := evF_9 (E := x.1.1) (l := o.2.2.2.1); have z2 := evF_9 (E := x.1.1) (l := o.2.2.2.2.1); omega), hplr, (by omega), ?_⟩
      intro I120o L120o p120hR p120bg55 p120bbg53 p120bbbhcl2 p120bbbbfr p120bbbbbfrL
      refine hQ _ _ (zMs_x (if_pos (by omega)).symm (zMs_ra g57 p120hR p120bg55 p120bbg53 p120bbbhcl2 (fun c j h => p120bbbbfr c j (by omega) (by omega) (by omega) (by omega) (by omega) (by omega) (by omega) (by omega) (by omega) (by omega) (by omega) (by omega) (by omega) (by omega)) (fun c j h => p120bbbbbfrL c j (by omega)))) (fun c j h0 h1 h2 h3 h4 h5 h6 h7 h8 h9 h10 h11 h12 h13 h14 h15 => ((p120bbbbfr c j h0 h2 h4 h5 h6 h7 h8 h9 h10 h11 h12 h13 h14 h15).trans ((p57bbbfr c j h3).trans rfl))) (fun c j h0 h1 h2 h3 h4 => ((p120bbbbbfrL c j h0).trans ((p57bbbbfrL c j h3 h4).trans rfl)))
  · have k3_75b : v62 ≥ 0 := by omega
    clear h3_75 c2_75
    refine And.intro (zA_234 hS) (zrd (v := (x.1.1.2.1)) ((p57bbbfr 234 28 (by omega)).trans hV2) ?_)
    refine And.intro (by omega) ?_
    refine ⟨_, _, ⟨zW6i r62, zW6i (by omega)⟩, fun z12_75 c12_75 => ?_⟩
    refine And.intro c12_75.2.2 ⟨fun h13_75 => ?_, fun h13_75 => ?_⟩
    · have k13_75 : v62 ≥ (x.1.1.2.1) := by omega
      clear h13_75 c12_75
      refine And.intro (Or.inl rfl) ?_
      refine And.intro (by omega) ⟨fun h107 => ?_, fun h107 => ?_⟩
      · have t107 : evF x.1.1 o.2.2.2.1 = 0 := (by omega)
        have t107b : v62 = evV x.1.1 o.2.2.2.1 := (f62 (by omega))
        refine And.intro (zRb rfl) (zbf rfl ?_)
        refine And.intro (zA_234 hS) (zrd (v := (o.2.1)) ((p57bbbfr 234 51 (by omega)).trans h51) ?_)
        refine And.intro (zA_234 hS) ⟨_, sn_G_rai.up (by decide), ?_⟩
        refine ⟨x.2.2.2.2.2.2.2, x.1.1, x.2.2.2.2.2.1, (2 : Int), ((o.2.1) : Int), (0 : Int), rfl, hS, hR, (Eq.trans (b := ((x.2.2.2.2.2.2.2.length) : Int)) ((p57bbbfr 234 55 (by omega)).trans m10) (by omega)), (by omega), g57.2.2.2.2.2.2.2.2.2.2.1, g57.1, ((p57bbbfr 234 53 (by omega)).trans m8), m8b, (by have z := evF_9 (E := x.1.1) (l := o.2.2.2.1); have z2 := evF_9 (E := x.1.1) (l := o.2.2.2.2.1); omega), hplr, (by omega), ?_⟩
        intro I138o L138o p138hR p138bg55 p138bbg53 p138bbbhcl2 p138bbbbfr p138bbbbbfrL
        refine hQ _ _ (zMs_x ((if_neg (by omega)).trans (if_pos (by omega))).symm (zMs_ra g57 p138hR p138bg55 p138bbg53 p138bbbhcl2 (fun c j h => p138bbbbfr c j (by omega) (by omega) (by omega) (by omega) (by omega) (by omega) (by omega) (by omega) (by omega) (by omega) (by omega) (by omega) (by omega) (by omega)) (fun c j h => p138bbbbbfrL c j (by omega)))) (fun c j h0 h1 h2 h3 h4 h5 h6 h7 h8 h9 h10 h11 h12 h13 h14 h15 => ((p138bbbbfr c j h0 h2 h4 h5 h6 h7 h8 h9 h10 h11 h12 h13 h14 h15).trans ((p57bbbfr c j h3).trans rfl))) (fun c j h0 h1 h2 h3 h4 => ((p138bbbbbfrL c j h0).trans ((p57bbbbfrL c j h3 h4).trans rfl)))
      · refine And.intro (zA_234 hS) (zrd (v := ((evF (x.1.1) (o.2.2.2.1) : Nat))) p57bh66 ?_)
        refine And.intro (zA_234 hS) (zrd (v := (o.2.1)) ((p57bbbfr 234 51 (by omega)).trans h51) ?_)
        refine And.intro (zA_234 hS) ⟨_, sn_G_rai.up (by decide), ?_⟩
        refine ⟨x.2.2.2.2.2.2.2, x.1.1, x.2.2.2.2.2.1, (((evF (x.1.1) (o.2.2.2.1) : Nat)) : Int), ((o.2.1) : Int), (0 : Int), rfl, hS, hR, (Eq.trans (b := ((x.2.2.2.2.2.2.2.length) : Int)) ((p57bbbfr 234 55 (by omega)).trans m10) (by omega)), (by omega), g57.2.2.2.2.2.2.2.2.2.2.1, g57.1, ((p57bbbfr 234 53 (by omega)).trans m8), m8b, (by have z := evF_9 (E := x.1.1) (l := o.2.2.2.1); have z2 := evF_9 (E := x.1.1) (l := o.2.2.2.2.1); omega), hplr, (by omega), ?_⟩
        intro I120o L120o p120hR p120bg55 p120bbg53 p120bbbhcl2 p120bbbbfr p120bbbbbfrL
        refine hQ _ _ (zMs_x (if_pos (by omega)).symm (zMs_ra g57 p120hR p120bg55 p120bbg53 p120bbbhcl2 (fun c j h => p120bbbbfr c j (by omega) (by omega) (by omega) (by omega) (by omega) (by omega) (by omega) (by omega) (by omega) (by omega) (by omega) (by omega) (by omega) (by omega)) (fun c j h => p120bbbbbfrL c j (by omega)))) (fun c j h0 h1 h2 h3 h4 h5 h6 h7 h8 h9 h10 h11 h12 h13 h14 h15 => ((p120bbbbfr c j h0 h2 h4 h5 h6 h7 h8 h9 h10 h11 h12 h13 h14 h15).trans ((p57bbbfr c j h3).trans rfl))) (fun c j h0 h1 h2 h3 h4 => ((p120bbbbbfrL c j h0).trans ((p57bbbbfrL c j h3 h4).trans rfl)))
    · have k13_75b : v62 < (x.1.1.2.1) := by omega
      clear h13_75 c12_75
      refine And.intro (Or.inr rfl) ?_
      refine And.intro (by omega) ⟨fun h107 => ?_, fun h107 => ?_⟩
      · have t107 : evF x.1.1 o.2.2.2.1 = 0 := (by omega)
        have t107b : v62 = evV x.1.1 o.2.2.2.1 := (f62 (by omega))
        refine And.intro (zRb rfl) (zbt rfl ?_)
        refine And.intro (zA_234 hS) (zrdR (v := some 242) (zR_234_10 hR) ?_)
        refine And.intro (zP_242 hS (by omega) (by omega)) (fun v150 e150 r150 => ?_)
        have f150 : v150 = q2 := (e150.trans (((p57bbbfr 242 _ (by omega)).trans rfl).trans ((congrArg (I 242) (by omega)).trans s1)))
        refine And.intro (zA_234 hS) ⟨_, sn_G_ask.up (by decide), ?_⟩
        refine ⟨g, q2, o.2.2.2.2.1, x.1.1, (v150 : Int), rfl, hS, hR, ((p57bbbfr 234 3 (by omega)).trans h3), (by omega), (zCo_fr s3 (fun c j h1 h2 => ((p57bbbfr c j (by omega)).trans rfl))), s4, g57.1, (by omega), (by omega), ?_⟩
        intro v151o I151o L151o p151hv p151bh66 p151bbh65 p151bbbfr p151bbbbfrL
        have g151 : zMs g lim x I151o L151o := (zMs_fr g57 (fun c j h => by unfold msK at h; exact p151bbbfr c j (by omega)) (fun c j h => p151bbbbfrL c j (by omega) (by omega)))
        refine And.intro (by omega) ⟨fun h154 => ?_, fun h154 => ?_⟩
        · refine And.intro ⟨(zRb rfl), (zRb rfl)⟩ (zbf rfl ?_)
          refine And.intro (zA_234 hS) (zrdR (v := some 251) (zR_234_29 hR) ?_)
          refine ⟨_, (zWi (by omega)), ?_⟩
          refine And.intro (zA_234 hS) (zrdR (v := some 240) (zR_234_8 hR) ?_)
          refine And.intro (zP_240 hS (by omega) (by omega)) (fun v193 e193 r193 => ?_)
          have f193 : v193 = o.2.2.1 := (e193.trans (((p151bbbfr 240 _ (by omega)).trans ((p57bbbfr 240 _ (by omega)).trans rfl)).trans ((congrArg (I 240) (by omega)).trans hO.1.2.2.1)))
          refine And.intro (zA_234 hS) (fun v196 e196 r196 => ?_)
          have f196 : v196 = evV x.1.1 o.2.2.2.2.1 := (e196.trans (p151bbh65 (by omega)))
          refine And.intro ⟨(zx0 rfl), (zP_251 hS (by omega) (by omega))⟩ ⟨_, zW6i r196, ?_⟩
          refine hQ _ _ (zMs_x ((if_neg (by omega)).trans ((if_neg (by omega)).trans (if_neg (by omega)))).symm (zMs_E g151 (zRv_f g151.1 (fun c j h => rfl) (fun c j h => zxcj (by omega) rfl) ((zxe' (by omega)).trans f196)) (fun c j h => rfl) (fun c j h => zxu (by omega) rfl))) (fun c j h0 h1 h2 h3 h4 h5 h6 h7 h8 h9 h10 h11 h12 h13 h14 h15 => ((p151bbbfr c j h3).trans ((p57bbbfr c j h3).trans rfl))) (fun c j h0 h1 h2 h3 h4 => (zxu h0 ((p151bbbbfrL c j h3 h4).trans ((p57bbbbfrL c j h3 h4).trans rfl))))
        · refine And.intro (zA_234 hS) (zrd (v := ((evF (x.1.1) (o.2.2.2.2.1) : Nat))) p151bh66 ?_)
          refine And.intro (zA_234 hS) (zrd (v := (o.2.1)) ((p151bbbfr 234 51 (by omega)).trans ((p57bbbfr 234 51 (by omega)).trans h51)) ?_)
          refine And.intro (zA_234 hS) ⟨_, sn_G_rai.up (by decide), ?_⟩
          refine ⟨x.2.2.2.2.2.2.2, x.1.1, x.2.2.2.2.2.1, (((evF (x.1.1) (o.2.2.2.2.1) : Nat)) : Int), ((o.2.1) : Int), (0 : Int), rfl, hS, hR, (Eq.trans (b := ((x.2.2.2.2.2.2.2.length) : Int)) ((p151bbbfr 234 55 (by omega)).trans ((p57bbbfr 234 55 (by omega)).trans m10)) (by omega)), (by omega), g151.2.2.2.2.2.2.2.2.2.2.1, g151.1, ((p151bbbfr 234 53 (by omega)).trans ((p57bbbfr 234 53 (by omega)).trans m8)), m8b, (by have z := evF_9 (E := x.1.1) (l := o.2.2.2.1); have z2 := evF_9 (E := x.1.1) (l := o.2.2.2.2.1); omega), hplr, (by omega), ?_⟩
          intro I167o L167o p167hR p167bg55 p167bbg53 p167bbbhcl2 p167bbbbfr p167bbbbbfrL
          refine hQ _ _ (zMs_x ((if_neg (by omega)).trans ((if_neg (by omega)).trans (if_pos (by omega)))).symm (zMs_ra g151 p167hR p167bg55 p167bbg53 p167bbbhcl2 (fun c j h => p167bbbbfr c j (by omega) (by omega) (by omega) (by omega) (by omega) (by omega) (by omega) (by omega) (by omega) (by omega) (by omega) (by omega) (by omega) (by omega)) (fun c j h => p167bbbbbfrL c j (by omega)))) (fun c j h0 h1 h2 h3 h4 h5 h6 h7 h8 h9 h10 h11 h12 h13 h14 h15 => ((p167bbbbfr c j h0 h2 h4 h5 h6 h7 h8 h9 h10 h11 h12 h13 h14 h15).trans ((p151bbbfr c j h3).trans ((p57bbbfr c j h3).trans rfl)))) (fun c j h0 h1 h2 h3 h4 => ((p167bbbbbfrL c j h0).trans ((p151bbbbfrL c j h3 h4).trans ((p57bbbbfrL c j h3 h4).trans rfl))))
      · refine And.intro (zA_234 hS) (zrd (v := ((evF (x.1.1) (o.2.2.2.1) : Nat))) p57bh66 ?_)
        refine And.intro (zA_234 hS) (zrd (v := (o.2.1)) ((p57bbbfr 234 51 (by omega)).trans h51) ?_)
        refine And.intro (zA_234 hS) ⟨_, sn_G_rai.up (by decide), ?_⟩
        refine ⟨x.2.2.2.2.2.2.2, x.1.1, x.2.2.2.2.2.1, (((evF (x.1.1) (o.2.2.2.1) : Nat)) : Int), ((o.2.1) : Int), (0 : Int), rfl, hS, hR, (Eq.trans (b := ((x.2.2.2.2.2.2.2.length) : Int)) ((p57bbbfr 234 55 (by omega)).trans m10) (by omega)), (by omega), g57.2.2.2.2.2.2.2.2.2.2.1, g57.1, ((p57bbbfr 234 53 (by omega)).trans m8), m8b, (by have z := evF_9 (E := x.1.1) (l := o.2.2.2.1); have z2 := evF_9 (E := x.1.1) (l := o.2.2.2.2.1); omega), hplr, (by omega), ?_⟩
        intro I120o L120o p120hR p120bg55 p120bbg53 p120bbbhcl2 p120bbbbfr p120bbbbbfrL
        refine hQ _ _ (zMs_x (if_pos (by omega)).symm (zMs_ra g57 p120hR p120bg55 p120bbg53 p120bbbhcl2 (fun c j h => p120bbbbfr c j (by omega) (by omega) (by omega) (by omega) (by omega) (by omega) (by omega) (by omega) (by omega) (by omega) (by omega) (by omega) (by omega) (by omega)) (fun c j h => p120bbbbbfrL c j (by omega)))) (fun c j h0 h1 h2 h3 h4 h5 h6 h7 h8 h9 h10 h11 h12 h13 h14 h15 => ((p120bbbbfr c j h0 h2 h4 h5 h6 h7 h8 h9 h10 h11 h12 h13 h14 h15).trans ((p57bbbfr c j h3).trans rfl))) (fun c j h0 h1 h2 h3 h4 => ((p120bbbbbfrL c j h0).trans ((p57bbbbfrL c j h3 h4).trans rfl))))
def T_G_st3 : ZT := fun args I L R S Q => ∃ (g : Nat) (lim : Nat) (x : MsT) (i : Nat) (kc : Nat) (o : OrT) (b : Int), args = [zvr 234, zvi 3, zvi b] ∧ (zSh S) ∧ (zRs R) ∧ (I 234 3 = g) ∧ (g ≤ 1) ∧ (zMs g lim x I L) ∧ (zOr g kc i o I) ∧ (I 234 51 = o.2.1) ∧ (kc ≤ 1000) ∧ (i ≤ 599) ∧ (b = 600 * g + i) ∧ (o.1 = 3) ∧ ∀ (I' : ZI) (L' : ZI), (zMs g lim (if evF x.1.1 o.2.2.2.1 ≠ 0 then mRa (evF x.1.1 o.2.2.2.1) o.2.1 0 x else if ¬ (0 ≤ evV x.1.1 o.2.2.2.1 ∧ evV x.1.1 o.2.2.2.1 < (x.1.1.2.2.2.1 : Int)) then mRa 2 o.2.1 0 x else if evF x.1.1 o.2.2.2.2.1 ≠ 0 then mRa (evF x.1.1 o.2.2.2.2.1) o.2.1 0 x else mE x (evSl x.1.1 (evV x.1.1 o.2.2.2.1).toNat (evV x.1.1 o.2.2.2.2.1))) I' L') → (∀ c j : Nat, ¬ (c = 234 ∧ j = 28) → ¬ (c = 234 ∧ j = 30) → ¬ (c = 234 ∧ j = 44) → ¬ (c = 234 ∧ j = 66) → ¬ (c = 234 ∧ j = 53) → ¬ (c = 234 ∧ j = 55) → ¬ (c = 234 ∧ j = 46) → ¬ (c = 234 ∧ j = 47) → ¬ (c = 234 ∧ j = 48) → ¬ (c = 234 ∧ j = 49) → ¬ (c = 234 ∧ j = 50) → ¬ (c = 234 ∧ j = 52) → ¬ c = 259 → ¬ c = 262 → ¬ c = 263 → ¬ c = 264 → I' c j = I c j) → (∀ c j : Nat, ¬ c = 251 → ¬ c = 252 → ¬ c = 253 → ¬ c = 267 → ¬ (c = 234 ∧ j = 65) → L' c j = L c j) → Q none I' L' R S
set_option maxHeartbeats 4000000 in
theorem sn_G_st3 : ZSnd 3 12 51 T_G_st3 := ZSnd.of (zT12_51 2) (by
  rintro args I L R S Q hz ⟨g, lim, x, i, kc, o, b, rfl, hS, hR, h3, hg, hM, hO, h51, hkc, hi6, hb, hk1, hQ⟩
  obtain ⟨m1, m2, m3, m4, m5, m6, m7, ⟨m8, m8b⟩, m9, ⟨m10, m10b⟩, m11, m12, m13⟩ := id hM
  obtain ⟨hV1, ⟨hV2, hV2b⟩, hV3, ⟨hV4, hV4b⟩, hV5⟩ := id m1
  have hplr : r32 o.2.1 := by rw [← h51]; exact hz.1 234 51
  obtain ⟨q2, s1, s2, s3, s4⟩ := hO.2.2 (by unfold hsL; omega)
  obtain ⟨q1, u1, u2, u3, u4⟩ := hO.2.1 (by omega)
  refine And.intro rfl ?_
  refine And.intro ⟨(zRb rfl), (zRb rfl)⟩ (zbt rfl ?_)
  refine And.intro (zA_234 hS) (zrdR (v := some 241) (zR_234_9 hR) ?_)
  refine And.intro (zP_241 hS (by omega) (by omega)) (fun v56 e56 r56 => ?_)
  have f56 : v56 = q1 := (e56.trans ((congrArg (I 241) (by omega)).trans u1))
  refine And.intro (zA_234 hS) ⟨_, sn_G_ask.up (by decide), ?_⟩
  refine ⟨g, q1, o.2.2.2.1, x.1.1, (v56 : Int), rfl, hS, hR, h3, (by omega), u3, u4, m1, (by omega), (by omega), ?_⟩
  intro v57o I57o L57o p57hv p57bh66 p57bbh65 p57bbbfr p57bbbbfrL
  have g57 : zMs g lim x I57o L57o := (zMs_fr hM (fun c j h => by unfold msK at h; exact p57bbbfr c j (by omega)) (fun c j h => p57bbbbfrL c j (by omega) (by omega)))
  refine And.intro (zA_234 hS) (fun v62 e62 r62 => ?_)
  have f62 : evF x.1.1 o.2.2.2.1 = 0 → v62 = evV x.1.1 o.2.2.2.1 := (fun (h : evF x.1.1 o.2.2.2.1 = 0) => e62.trans (p57bbh65 h))
  refine And.intro ⟨(zRb rfl), (zRb rfl)⟩ (zbt rfl ?_)
  refine ⟨_, _, ⟨zW6i r62, zW6i (zRL rfl)⟩, fun z84 c84 => ?_⟩
  refine And.intro c84.2.2 ⟨fun h85 => ?_, fun h85 => ?_⟩
  · have k85 : v62 < 0 := by omega
    clear h85 c84
    refine And.intro (by omega) ⟨fun h107 => ?_, fun h107 => ?_⟩
    · have t107 : evF x.1.1 o.2.2.2.1 = 0 := (by omega)
      have t107b : v62 = evV x.1.1 o.2.2.2.1 := (f62 (by omega))
      refine And.intro (zRb rfl) (zbf rfl ?_)
      refine And.intro (zA_234 hS) (zrd (v := (o.2.1)) ((p57bbbfr 234 51 (by omega)).trans h51) ?_)
      refine And.intro (zA_234 hS) ⟨_, sn_G_rai.up (by decide), ?_⟩
      refine ⟨x.2.2.2.2.2.2.2, x.1.1, x.2.2.2.2.2.1, (2 : Int), ((o.2.1) : Int), (0 : Int), rfl, hS, hR, (Eq.trans (b := ((x.2.2.2.2.2.2.2.length) : Int)) ((p57bbbfr 234 55 (by omega)).trans m10) (by omega)), (by omega), g57.2.2.2.2.2.2.2.2.2.2.1, g57.1, ((p57bbbfr 234 53 (by omega)).trans m8), m8b, (by have z := evF_9 (E := x.1.1) (l := o.2.2.2.1); have z2 := evF_9 (E := x.1.1) (l := o.2.2.2.2.1); omega), hplr, (by omega), ?_⟩
      intro I138o L138o p138hR p138bg55 p138bbg53 p138bbbhcl2 p138bbbbfr p138bbbbbfrL
      refine hQ _ _ (zMs_x ((if_neg (by omega)).trans (if_pos (by omega))).symm (zMs_ra g57 p138hR p138bg55 p138bbg53 p138bbbhcl2 (fun c j h => p138bbbbfr c j (by omega) (by omega) (by omega) (by omega) (by omega) (by omega) (by omega) (by omega) (by omega) (by omega) (by omega) (by omega) (by omega) (by omega)) (fun c j h => p138bbbbbfrL c j (by omega)))) (fun c j h0 h1 h2 h3 h4 h5 h6 h7 h8 h9 h10 h11 h12 h13 h14 h15 => ((p138bbbbfr c j h0 h2 h4 h5 h6 h7 h8 h9 h10 h11 h12 h13 h14 h15).trans ((p57bbbfr c j h3).trans rfl))) (fun c j h0 h1 h2 h3 h4 => ((p138bbbbbfrL c j h0).trans ((p57bbbbfrL c j h3 h4).trans rfl)))
    · refine And.intro (zA_234 hS) (zrd (v := ((evF (x.1.1) (o.2.2.2.1) : Nat))) p57bh66 ?_)
      refine And.intro (zA_234 hS) (zrd (v := (o.2.1)) ((p57bbbfr 234 51 (by omega)).trans h51) ?_)
      refine And.intro (zA_234 hS) ⟨_, sn_G_rai.up (by decide), ?_⟩
      refine ⟨x.2.2.2.2.2.2.2, x.1.1, x.2.2.2.2.2.1, (((evF (x.1.1) (o.2.2.2.1) : Nat)) : Int), ((o.2.1) : Int), (0 : Int), rfl, hS, hR, (Eq.trans (b := ((x.2.2.2.2.2.2.2.length) : Int)) ((p57bbbfr 234 55 (by omega)).trans m10) (by omega)), (by omega), g57.2.2.2.2.2.2.2.2.2.2.1, g57.1, ((p57bbbfr 234 53 (by omega)).trans m8), m8b, (by have z := evF_9 (E := x.1.1) (l := o.2.2.2.1); have z2 := evF_9 (E := x.1.1) (l := o.2.2.2.2.1); omega), hplr, (by omega), ?_⟩
      intro I120o L120o p120hR p120bg55 p120bbg53 p120bbbhcl2 p120bbbbfr p120bbbbbfrL
      refine hQ _ _ (zMs_x (if_pos (by omega)).symm (zMs_ra g57 p120hR p120bg55 p120bbg53 p120bbbhcl2 (fun c j h => p120bbbbfr c j (by omega) (by omega) (by omega) (by omega) (by omega) (by omega) (by omega) (by omega) (by omega) (by omega) (by omega) (by omega) (by omega) (by omega)) (fun c j h => p120bbbbbfrL c j (by omega)))) (fun c j h0 h1 h2 h3 h4 h5 h6 h7 h8 h9 h10 h11 h12 h13 h14 h15 => ((p120bbbbfr c j h0 h2 h4 h5 h6 h7 h8 h9 h10 h11 h12 h13 h14 h15).trans ((p57bbbfr c j h3).trans rfl))) (fun c j h0 h1 h2 h3 h4 => ((p120bbbbbfrL c j h0).trans ((p57bbbbfrL c j h3 h4).trans rfl)))
  · have k85b : v62 ≥ 0 := by omega
    clear h85 c84
    refine And.intro (zA_234 hS) (zrd (v := (x.1.1.2.2.2.1)) ((p57bbbfr 234 30 (by omega)).trans hV4) ?_)
    refine And.intro (by omega) ?_
    refine ⟨_, _, ⟨zW6i r62, zW6i (by omega)⟩, fun z95 c95 => ?_⟩
    refine And.intro c95.2.2 ⟨fun h96 => ?_, fun h96 => ?_⟩
    · have k96 : v62 ≥ (x.1.1.2.2.2.1) := by omega
      clear h96 c95
      refine And.intro (by omega) ⟨fun h107 => ?_, fun h107 => ?_⟩
      · have t107 : evF x.1.1 o.2.2.2.1 = 0 := (by omega)
        have t107b : v62 = evV x.1.1 o.2.2.2.1 := (f62 (by omega))
        refine And.intro (zRb rfl) (zbf rfl ?_)
        refine And.intro (zA_234 hS) (zrd (v := (o.2.1)) ((p57bbbfr 234 51 (by omega)).trans h51) ?_)
        refine And.intro (zA_234 hS) ⟨_, sn_G_rai.up (by decide), ?_⟩
        refine ⟨x.2.2.2.2.2.2.2, x.1.1, x.2.2.2.2.2.1, (2 : Int), ((o.2.1) : Int), (0 : Int), rfl, hS, hR, (Eq.trans (b := ((x.2.2.2.2.2.2.2.length) : Int)) ((p57bbbfr 234 55 (by omega)).trans m10) (by omega)), (by omega), g57.2.2.2.2.2.2.2.2.2.2.1, g57.1, ((p57bbbfr 234 53 (by omega)).trans m8), m8b, (by have z := evF_9 (E := x.1.1) (l := o.2.2.2.1); have z2 := evF_9 (E := x.1.1) (l := o.2.2.2.2.1); omega), hplr, (by omega), ?_⟩
        intro I138o L138o p138hR p138bg55 p138bbg53 p138bbbhcl2 p138bbbbfr p138bbbbbfrL
        refine hQ _ _ (zMs_x ((if_neg (by omega)).trans (if_pos (by omega))).symm (zMs_ra g57 p138hR p138bg55 p138bbg53 p138bbbhcl2 (fun c j h => p138bbbbfr c j (by omega) (by omega) (by omega) (by omega) (by omega) (by omega) (by omega) (by omega) (by omega) (by omega) (by omega) (by omega) (by omega) (by omega)) (fun c j h => p138bbbbbfrL c j (by omega)))) (fun c j h0 h1 h2 h3 h4 h5 h6 h7 h8 h9 h10 h11 h12 h13 h14 h15 => ((p138bbbbfr c j h0 h2 h4 h5 h6 h7 h8 h9 h10 h11 h12 h13 h14 h15).trans ((p57bbbfr c j h3).trans rfl))) (fun c j h0 h1 h2 h3 h4 => ((p138bbbbbfrL c j h0).trans ((p57bbbbfrL c j h3 h4).trans rfl)))
      · refine And.intro (zA_234 hS) (zrd (v := ((evF (x.1.1) (o.2.2.2.1) : Nat))) p57bh66 ?_)
        refine And.intro (zA_234 hS) (zrd (v := (o.2.1)) ((p57bbbfr 234 51 (by omega)).trans h51) ?_)
        refine And.intro (zA_234 hS) ⟨_, sn_G_rai.up (by decide), ?_⟩
        refine ⟨x.2.2.2.2.2.2.2, x.1.1, x.2.2.2.2.2.1, (((evF (x.1.1) (o.2.2.2.1) : Nat)) : Int), ((o.2.1) : Int), (0 : Int), rfl, hS, hR, (Eq.trans (b := ((x.2.2.2.2.2.2.2.length) : Int)) ((p57bbbfr 234 55 (by omega)).trans m10) (by omega)), (by omega), g57.2.2.2.2.2.2.2.2.2.2.1, g57.1, ((p57bbbfr 234 53 (by omega)).trans m8), m8b, (by have z := evF_9 (E := x.1.1) (l := o.2.2.2.1); have z2 := evF_9 (E := x.1.1) (l := o.2.2.2.2.1); omega), hplr, (by omega), ?_⟩
        intro I120o L120o p120hR p120bg55 p120bbg53 p120bbbhcl2 p120bbbbfr p120bbbbbfrL
        refine hQ _ _ (zMs_x (if_pos (by omega)).symm (zMs_ra g57 p120hR p120bg55 p120bbg53 p120bbbhcl2 (fun c j h => p120bbbbfr c j (by omega) (by omega) (by omega) (by omega) (by omega) (by omega) (by omega) (by omega) (by omega) (by omega) (by omega) (by omega) (by omega) (by omega)) (fun c j h => p120bbbbbfrL c j (by omega)))) (fun c j h0 h1 h2 h3 h4 h5 h6 h7 h8 h9 h10 h11 h12 h13 h14 h15 => ((p120bbbbfr c j h0 h2 h4 h5 h6 h7 h8 h9 h10 h11 h12 h13 h14 h15).trans ((p57bbbfr c j h3).trans rfl))) (fun c j h0 h1 h2 h3 h4 => ((p120bbbbbfrL c j h0).trans ((p57bbbbfrL c j h3 h4).trans rfl)))
    · have k96b : v62 < (x.1.1.2.2.2.1) := by omega
      clear h96 c95
      refine And.intro (by omega) ⟨fun h107 => ?_, fun h107 => ?_⟩
      · have t107 : evF x.1.1 o.2.2.2.1 = 0 := (by omega)
        have t107b : v62 = evV x.1.1 o.2.2.2.1 := (f62 (by omega))
        refine And.intro (zRb rfl) (zbt rfl ?_)
        refine And.intro (zA_234 hS) (zrdR (v := some 242) (zR_234_10 hR) ?_)
        refine And.intro (zP_242 hS (by omega) (by omega)) (fun v150 e150 r150 => ?_)
        have f150 : v150 = q2 := (e150.trans (((p57bbbfr 242 _ (by omega)).trans rfl).trans ((congrArg (I 242) (by omega)).trans s1)))
        refine And.intro (zA_234 hS) ⟨_, sn_G_ask.up (by decide), ?_⟩
        refine ⟨g, q2, o.2.2.2.2.1, x.1.1, (v150 : Int), rfl, hS, hR, ((p57bbbfr 234 3 (by omega)).trans h3), (by omega), (zCo_fr s3 (fun c j h1 h2 => ((p57bbbfr c j (by omega)).trans rfl))), s4, g57.1, (by omega), (by omega), ?_⟩
        intro v151o I151o L151o p151hv p151bh66 p151bbh65 p151bbbfr p151bbbbfrL
        have g151 : zMs g lim x I151o L151o := (zMs_fr g57 (fun c j h => by unfold msK at h; exact p151bbbfr c j (by omega)) (fun c j h => p151bbbbfrL c j (by omega) (by omega)))
        refine And.intro (by omega) ⟨fun h154 => ?_, fun h154 => ?_⟩
        · refine And.intro ⟨(zRb rfl), (zRb rfl)⟩ (zbt rfl ?_)
          refine And.intro (zA_234 hS) (zrdR (v := some 252) (zR_234_31 hR) ?_)
          refine ⟨_, (zWi (by omega)), ?_⟩
          refine And.intro (zA_234 hS) (fun v211 e211 r211 => ?_)
          have f211 : v211 = evV x.1.1 o.2.2.2.2.1 := (e211.trans (p151bbh65 (by omega)))
          refine And.intro ⟨(zx0 rfl), (zP_252 hS (by omega) (by omega))⟩ ⟨_, zW6i r211, ?_⟩
          refine hQ _ _ (zMs_x ((if_neg (by omega)).trans ((if_neg (by omega)).trans (if_neg (by omega)))).symm (zMs_E g151 (zRv_l g151.1 (fun c j h => rfl) (fun c j h => zxcj (by omega) rfl) ((zxe' (by omega)).trans f211)) (fun c j h => rfl) (fun c j h => zxu (by omega) rfl))) (fun c j h0 h1 h2 h3 h4 h5 h6 h7 h8 h9 h10 h11 h12 h13 h14 h15 => ((p151bbbfr c j h3).trans ((p57bbbfr c j h3).trans rfl))) (fun c j h0 h1 h2 h3 h4 => (zxu h1 ((p151bbbbfrL c j h3 h4).trans ((p57bbbbfrL c j h3 h4).trans rfl))))
        · refine And.intro (zA_234 hS) (zrd (v := ((evF (x.1.1) (o.2.2.2.2.1) : Nat))) p151bh66 ?_)
          refine And.intro (zA_234 hS) (zrd (v := (o.2.1)) ((p151bbbfr 234 51 (by omega)).trans ((p57bbbfr 234 51 (by omega)).trans h51)) ?_)
          refine And.intro (zA_234 hS) ⟨_, sn_G_rai.up (by decide), ?_⟩
          refine ⟨x.2.2.2.2.2.2.2, x.1.1, x.2.2.2.2.2.1, (((evF (x.1.1) (o.2.2.2.2.1) : Nat)) : Int), ((o.2.1) : Int), (0 : Int), rfl, hS, hR, (Eq.trans (b := ((x.2.2.2.2.2.2.2.length) : Int)) ((p151bbbfr 234 55 (by omega)).trans ((p57bbbfr 234 55 (by omega)).trans m10)) (by omega)), (by omega), g151.2.2.2.2.2.2.2.2.2.2.1, g151.1, ((p151bbbfr 234 53 (by omega)).trans ((p57bbbfr 234 53 (by omega)).trans m8)), m8b, (by have z := evF_9 (E := x.1.1) (l := o.2.2.2.1); have z2 := evF_9 (E := x.1.1) (l := o.2.2.2.2.1); omega), hplr, (by omega), ?_⟩
          intro I167o L167o p167hR p167bg55 p167bbg53 p167bbbhcl2 p167bbbbfr p167bbbbbfrL
          refine hQ _ _ (zMs_x ((if_neg (by omega)).trans ((if_neg (by omega)).trans (if_pos (by omega)))).symm (zMs_ra g151 p167hR p167bg55 p167bbg53 p167bbbhcl2 (fun c j h => p167bbbbfr c j (by omega) (by omega) (by omega) (by omega) (by omega) (by omega) (by omega) (by omega) (by omega) (by omega) (by omega) (by omega) (by omega) (by omega)) (fun c j h => p167bbbbbfrL c j (by omega)))) (fun c j h0 h1 h2 h3 h4 h5 h6 h7 h8 h9 h10 h11 h12 h13 h14 h15 => ((p167bbbbfr c j h0 h2 h4 h5 h6 h7 h8 h9 h10 h11 h12 h13 h14 h15).trans ((p151bbbfr c j h3).trans ((p57bbbfr c j h3).trans rfl)))) (fun c j h0 h1 h2 h3 h4 => ((p167bbbbbfrL c j h0).trans ((p151bbbbfrL c j h3 h4).trans ((p57bbbbfrL c j h3 h4).trans rfl))))
      · refine And.intro (zA_234 hS) (zrd (v := ((evF (x.1.1) (o.2.2.2.1) : Nat))) p57bh66 ?_)
        refine And.intro (zA_234 hS) (zrd (v := (o.2.1)) ((p57bbbfr 234 51 (by omega)).trans h51) ?_)
        refine And.intro (zA_234 hS) ⟨_, sn_G_rai.up (by decide), ?_⟩
        refine ⟨x.2.2.2.2.2.2.2, x.1.1, x.2.2.2.2.2.1, (((evF (x.1.1) (o.2.2.2.1) : Nat)) : Int), ((o.2.1) : Int), (0 : Int), rfl, hS, hR, (Eq.trans (b := ((x.2.2.2.2.2.2.2.length) : Int)) ((p57bbbfr 234 55 (by omega)).trans m10) (by omega)), (by omega), g57.2.2.2.2.2.2.2.2.2.2.1, g57.1, ((p57bbbfr 234 53 (by omega)).trans m8), m8b, (by have z := evF_9 (E := x.1.1) (l := o.2.2.2.1); have z2 := evF_9 (E := x.1.1) (l := o.2.2.2.2.1); omega), hplr, (by omega), ?_⟩
        intro I120o L120o p120hR p120bg55 p120bbg53 p120bbbhcl2 p120bbbbfr p120bbbbbfrL
        refine hQ _ _ (zMs_x (if_pos (by omega)).symm (zMs_ra g57 p120hR p120bg55 p120bbg53 p120bbbhcl2 (fun c j h => p120bbbbfr c j (by omega) (by omega) (by omega) (by omega) (by omega) (by omega) (by omega) (by omega) (by omega) (by omega) (by omega) (by omega) (by omega) (by omega)) (fun c j h => p120bbbbbfrL c j (by omega)))) (fun c j h0 h1 h2 h3 h4 h5 h6 h7 h8 h9 h10 h11 h12 h13 h14 h15 => ((p120bbbbfr c j h0 h2 h4 h5 h6 h7 h8 h9 h10 h11 h12 h13 h14 h15).trans ((p57bbbfr c j h3).trans rfl))) (fun c j h0 h1 h2 h3 h4 => ((p120bbbbbfrL c j h0).trans ((p57bbbbfrL c j h3 h4).trans rfl))))
