/-! tv -/
def T_G_aob : ZT := fun args I L R S Q => ∃ (g : Nat) (lim : Nat) (x : MsT) (i : Nat) (pl : Int) (kc : Nat) (l : CdL) (b : Int), args = [zvr 234, zvi b] ∧ (zSh S) ∧ (zRs R) ∧ (I 234 3 = g) ∧ (g ≤ 1) ∧ (zMs g lim x I L) ∧ (I 234 51 = pl) ∧ (kc ≤ 1000) ∧ (i ≤ 599) ∧ (b = 600 * g + i) ∧ (zOl g kc l (I 242 (600 * g + i)) I) ∧ ∀ (I' : ZI) (L' : ZI), (zMs g lim (mQr l pl x) I' L') → (∀ c j : Nat, ¬ (c = 234 ∧ j = 28) → ¬ (c = 234 ∧ j = 30) → ¬ (c = 234 ∧ j = 44) → ¬ (c = 234 ∧ j = 66) → ¬ (c = 234 ∧ j = 53) → ¬ (c = 234 ∧ j = 55) → ¬ (c = 234 ∧ j = 46) → ¬ (c = 234 ∧ j = 47) → ¬ (c = 234 ∧ j = 48) → ¬ (c = 234 ∧ j = 49) → ¬ (c = 234 ∧ j = 50) → ¬ (c = 234 ∧ j = 52) → ¬ c = 259 → ¬ c = 262 → ¬ c = 263 → ¬ c = 264 → ¬ (c = 234 ∧ j = 40) → ¬ c = 256 → I' c j = I c j) → (∀ c j : Nat, ¬ c = 251 → ¬ c = 252 → ¬ c = 253 → ¬ c = 267 → ¬ (c = 234 ∧ j = 65) → L' c j = L c j) → Q none I' L' R S
set_option maxHeartbeats 4000000 in
theorem sn_G_aob : ZSnd 3 12 5 T_G_aob := ZSnd.loops (zT12_5 2) (by
  rintro args I L R S Q hz ⟨g, lim, x, i, pl, kc, l, b, rfl, hS, hR, h3, hg, hM, h51, hkc, hi6, hb, hl, hQ⟩
  obtain ⟨m1, m2, m3, m4, m5, m6, m7, ⟨m8, m8b⟩, m9, ⟨m10, m10b⟩, m11, m12, m13⟩ := id hM
  obtain ⟨hV1, ⟨hV2, hV2b⟩, hV3, ⟨hV4, hV4b⟩, hV5⟩ := id m1
  have hplr : r32 pl := by rw [← h51]; exact hz.1 234 51
  obtain ⟨q, hq1, hq2, hq3, hq4⟩ := id hl
  refine ⟨[14, 100], fun nM tM lsM stM I1 L1 R1 S1 => match tM with
      | 14 => ∃ (m : Nat) (E1 : EvE) (bt : Int), nM = (2, (13 - m), 0) ∧ lsM = [some (zvr (234)), some (zvi (b)), some (zvl (x.1.1.1 25)), none, some (zvi (bt)), some (zvi (m))] ∧ stM = [] ∧ R1 = R ∧ S1 = S ∧ (m ≤ x.1.1.2.1) ∧ (r32 bt) ∧ (E1.2.1 = x.1.1.2.1) ∧ (qrL l (x.1.1.2.1 - m) m E1 = qrL l x.1.1.2.1 0 x.1.1) ∧ (zMs g lim (mE x E1) I1 L1) ∧ (I1 234 3 = g) ∧ (I1 234 51 = pl) ∧ (∀ c j : Nat, ¬ (c = 234 ∧ j = 66) → I1 c j = I c j) ∧ (∀ c j : Nat, ¬ c = 253 → ¬ c = 267 → ¬ (c = 234 ∧ j = 65) → L1 c j = L c j)
      | 100 => ∃ (m : Nat) (fd : Nat) (bt : Int), nM = (1, (13 - m), 0) ∧ lsM = [some (zvr (234)), none, none, none, some (zvi (bt)), some (zvi (m))] ∧ stM = [] ∧ R1 = R ∧ S1 = S ∧ (m ≤ x.1.1.2.1) ∧ (r32 bt) ∧ (fd ≤ m) ∧ (I1 234 40 = fd) ∧ ((mQr l pl x).1.1.2.1 = x.1.1.2.1) ∧ (zMs g lim (mQr l pl x) I1 L1) ∧ (∀ c j : Nat, ¬ (c = 234 ∧ j = 66) → ¬ (c = 234 ∧ j = 40) → ¬ c = 256 → I1 c j = I c j) ∧ (∀ c j : Nat, ¬ c = 253 → ¬ c = 267 → ¬ (c = 234 ∧ j = 65) → L1 c j = L c j)
      | _ => False, rfl, ?_, ⟨?_, ?_, True.intro⟩⟩
  · refine And.intro (zA_234 hS) (zrdR (v := some 253) (zR_234_33 hR) ?_)
    refine And.intro (zP_253 hS (by omega) (by omega)) (fun v6 e6 r6 => ?_)
    have f6 : v6 = x.1.1.1 25 := (e6.trans (hV1 25 (by decide)))
    refine ⟨(2, (13 - (0 : Nat)), 0), [some (zvr (234)), some (zvi (b)), some (zvl (x.1.1.1 25)), none, some (zvi ((0 : Int))), some (zvi ((0 : Nat)))], ⟨rfl, rfl, (congrArg (fun z => some (zvl z)) (by omega)), rfl, rfl, rfl⟩, 0, x.1.1, 0, rfl, rfl, rfl, rfl, rfl, (by omega), (by omega), rfl, rfl, hM, h3, h51, (fun c j h0 => rfl), (fun c j h0 h1 h2 => rfl)⟩
  · rintro nM lsM stM I1 L1 R1 S1 hz1 ⟨m, E1, bt, rfl, rfl, rfl, rfl, rfl, hm, hbt, hE2, hqr, hM1, h31_, h51_, fr, frL⟩
    have hv25 : r64 (x.1.1.1 25) := by rw [← hV1 25 (by decide)]; exact hz.2 253 25
    have j28 : I1 234 28 = x.1.1.2.1 := hM1.1.2.1.1.trans (by show ((E1.2.1 : Nat) : Int) = _; rw [hE2])
    refine And.intro (zA_234 hS) (zrd (v := (x.1.1.2.1)) j28 ?_)
    refine And.intro ⟨(by omega), (by omega)⟩ ⟨fun h20 => ?_, fun h20 => ?_⟩
    · refine And.intro (zA_234 hS) (zrdR (v := some 253) (zR_234_33 hR) ?_)
      refine And.intro ⟨(zx0 rfl), (zP_253 hS (by omega) (by omega))⟩ ⟨_, zW6i (by omega), ?_⟩
      refine And.intro (zA_234 hS) ⟨_, (zWi (zRb rfl)), ?_⟩
      refine ⟨(1, (13 - (0 : Nat)), 0), zlt6 (by omega), [some (zvr (234)), none, none, none, some (zvi (bt)), some (zvi ((0 : Nat)))], ⟨rfl, rfl, rfl, rfl⟩, 0, 0, bt, rfl, rfl, rfl, rfl, rfl, (by omega), (by omega), (by omega), rfl, (by rw [mQr_0 (qr_en (by omega) hqr)]; exact hE2), (zMs_x (mQr_0 (qr_en (by omega) hqr)).symm (zMs_E (x := mE x E1) (E := evSv E1 25 (x.1.1.1 25)) hM1 (zRv_v hM1.1 (fun c j h => zxcj (by omega) rfl) (fun c j h => zxcj (by omega) rfl) zxe) (fun c j h => by unfold msK at h; exact zxcj (by omega) rfl) (fun c j h => zxcj (by omega) rfl))), (fun c j h0 h1 h2 => (zxcj h1 ((fr c j h0).trans rfl))), (fun c j h0 h1 h2 => (zxu h0 ((frL c j h0 h1 h2).trans rfl)))⟩
    · refine And.intro (zA_234 hS) (zrdR (v := some 253) (zR_234_33 hR) ?_)
      refine And.intro (by omega) ?_
      refine And.intro ⟨(zx0 rfl), (zP_253 hS (by omega) (by omega))⟩ ⟨_, zW6i (by omega), ?_⟩
      refine And.intro (zA_234 hS) (zrdR (v := some 242) (zR_234_10 hR) ?_)
      refine And.intro (zP_242 hS (by omega) (by omega)) (fun v39 e39 r39 => ?_)
      have f39 : v39 = q := (e39.trans ((fr _ _ (by omega)).trans ((congrArg (I 242) (by omega)).trans hq1)))
      refine And.intro (zA_234 hS) ⟨_, sn_G_ask.up (by decide), ?_⟩
      refine ⟨g, q, l, (evSv E1 25 (m : Int)), (v39 : Int), rfl, hS, hR, h31_, (by omega), (zCo_fr hq3 (fun c j h1 h2 => ((fr c j (by omega)).trans rfl))), hq4, (zRv_v hM1.1 (fun c j h => rfl) (fun c j h => zxcj (by omega) rfl) zxe), (by omega), (by omega), ?_⟩
      intro v40o I40o L40o p40hv p40bh66 p40bbh65 p40bbbfr p40bbbbfrL
      have g40 : zMs g lim (mE x (evSv E1 25 (m : Int))) I40o L40o := (zMs_E (x := mE x E1) (E := (evSv E1 25 (m : Int))) hM1 (zRv_fr (zRv_v hM1.1 (fun c j h => rfl) (fun c j h => zxcj (by omega) rfl) zxe) (fun c j h => p40bbbfr c j (by omega)) (fun c j h => p40bbbbfrL c j (by omega) (by omega))) (fun c j h => by unfold msK at h; exact p40bbbfr c j (by omega)) (fun c j h => (p40bbbbfrL c j (by omega) (by omega)).trans (zxcj (by omega) rfl)))
      refine And.intro (by omega) ⟨fun h43 => ?_, fun h43 => ?_⟩
      · refine And.intro (zA_234 hS) (fun v61 e61 r61 => ?_)
        refine ⟨_, _, ⟨zW6i r61, zW6i (zRL rfl)⟩, fun z65 c65 => ?_⟩
        refine And.intro c65.2.2 ⟨fun h66 => ?_, fun h66 => ?_⟩
        · refine ⟨(2, (13 - (m + 1)), 0), zlt6 (by omega), [some (zvr (234)), some (zvi (b)), some (zvl (x.1.1.1 25)), none, some (zvi (bt)), some (zvi ((m + 1)))], ⟨rfl, rfl, rfl, rfl, rfl, rfl⟩, (m + 1), (evSv E1 25 (m : Int)), bt, rfl, rfl, rfl, rfl, rfl, (by omega), (by first | exact hbt | exact zr_or), hE2, (qr_go' (by omega) hqr (by omega)), g40, ((p40bbbfr 234 3 (by omega)).trans h31_), ((p40bbbfr 234 51 (by omega)).trans h51_), (fun c j h0 => ((p40bbbfr c j h0).trans ((fr c j h0).trans rfl))), (fun c j h0 h1 h2 => ((p40bbbbfrL c j h1 h2).trans (zxu h0 ((frL c j h0 h1 h2).trans rfl))))⟩
        · refine ⟨(2, (13 - (m + 1)), 0), zlt6 (by omega), [some (zvr (234)), some (zvi (b)), some (zvl (x.1.1.1 25)), none, some (zvi ((zor bt (zshl 1 m)))), some (zvi ((m + 1)))], ⟨rfl, rfl, rfl, rfl, rfl, rfl⟩, (m + 1), (evSv E1 25 (m : Int)), (zor bt (zshl 1 m)), rfl, rfl, rfl, rfl, rfl, (by omega), (by first | exact hbt | exact zr_or), hE2, (qr_go' (by omega) hqr (by omega)), g40, ((p40bbbfr 234 3 (by omega)).trans h31_), ((p40bbbfr 234 51 (by omega)).trans h51_), (fun c j h0 => ((p40bbbfr c j h0).trans ((fr c j h0).trans rfl))), (fun c j h0 h1 h2 => ((p40bbbbfrL c j h1 h2).trans (zxu h0 ((frL c j h0 h1 h2).trans rfl))))⟩
      · refine And.intro (zA_234 hS) (zrd (v := ((evF (evSv E1 25 (m : Int)) l : Nat))) p40bh66 ?_)
        refine And.intro (zA_234 hS) (zrd (v := pl) ((p40bbbfr 234 51 (by omega)).trans h51_) ?_)
        refine And.intro (zA_234 hS) ⟨_, sn_G_rai.up (by decide), ?_⟩
        refine ⟨x.2.2.2.2.2.2.2, (evSv E1 25 (m : Int)), x.2.2.2.2.2.1, (((evF (evSv E1 25 (m : Int)) l : Nat)) : Int), (pl : Int), (0 : Int), rfl, hS, hR, (Eq.trans (b := ((x.2.2.2.2.2.2.2.length) : Int)) ((p40bbbfr 234 55 (by omega)).trans ((fr 234 55 (by omega)).trans m10)) (by omega)), (by omega), g40.2.2.2.2.2.2.2.2.2.2.1, g40.1, ((p40bbbfr 234 53 (by omega)).trans ((fr 234 53 (by omega)).trans m8)), m8b, (by have z := evF_9 (E := (evSv E1 25 (m : Int))) (l := l); omega), hplr, (by omega), ?_⟩
        intro I56o L56o p56hR p56bg55 p56bbg53 p56bbbhcl2 p56bbbbfr p56bbbbbfrL
        refine hQ _ _ (zMs_x (mQr_1 (by omega) (qr_no' (by omega) hqr (by omega))).symm (zMs_ra g40 p56hR p56bg55 p56bbg53 p56bbbhcl2 (fun c j h => p56bbbbfr c j (by omega) (by omega) (by omega) (by omega) (by omega) (by omega) (by omega) (by omega) (by omega) (by omega) (by omega) (by omega) (by omega) (by omega)) (fun c j h => p56bbbbbfrL c j (by omega)))) (fun c j h0 h1 h2 h3 h4 h5 h6 h7 h8 h9 h10 h11 h12 h13 h14 h15 h16 h17 => ((p56bbbbfr c j h0 h2 h4 h5 h6 h7 h8 h9 h10 h11 h12 h13 h14 h15).trans ((p40bbbfr c j h3).trans ((fr c j h3).trans rfl)))) (fun c j h0 h1 h2 h3 h4 => ((p56bbbbbfrL c j h0).trans ((p40bbbbfrL c j h3 h4).trans (zxu h2 ((frL c j h2 h3 h4).trans rfl)))))
  · rintro nM lsM stM I1 L1 R1 S1 hz1 ⟨m, fd, bt, rfl, rfl, rfl, rfl, rfl, hm, hbt, hfd, h40, hnf, hM1, fr, frL⟩
    have j28 : I1 234 28 = x.1.1.2.1 := hM1.1.2.1.1.trans (by rw [hnf])
    refine And.intro (zA_234 hS) (zrd (v := (x.1.1.2.1)) j28 ?_)
    refine And.intro ⟨(by omega), (by omega)⟩ ⟨fun h106 => ?_, fun h106 => ?_⟩
    · refine hQ _ _ hM1 (fun c j h0 h1 h2 h3 h4 h5 h6 h7 h8 h9 h10 h11 h12 h13 h14 h15 h16 h17 => ((fr c j h3 h16 h17).trans rfl)) (fun c j h0 h1 h2 h3 h4 => ((frL c j h2 h3 h4).trans rfl))
    · have b115 : (zand (zshr bt m) 1) = (zshr bt m) % 2 := zand1 _
      refine And.intro zr_and ⟨fun h116 => ?_, fun h116 => ?_⟩
      · refine And.intro (zA_234 hS) (zrdR (v := some 256) (zR_234_41 hR) ?_)
        refine And.intro (zA_234 hS) (zrd (v := fd) h40 ?_)
        refine And.intro ⟨(zx0 rfl), (zP_256 hS (by omega) (by omega))⟩ ⟨_, (zWi (by omega)), ?_⟩
        refine And.intro (zA_234 hS) (zrd (v := fd) h40 ?_)
        refine And.intro (zA_234 hS) ⟨_, (zWi (by omega)), ?_⟩
        refine ⟨(1, (13 - (m + 1)), 0), zlt6 (by omega), [some (zvr (234)), none, none, none, some (zvi (bt)), some (zvi ((m + 1)))], ⟨rfl, rfl, rfl, rfl⟩, (m + 1), (fd + 1), bt, rfl, rfl, rfl, rfl, rfl, (by omega), (by omega), (by omega), rfl, hnf, (zMs_fr hM1 (fun c j h => by unfold msK at h; exact (zxcj (by omega) (zxcj (by omega) rfl))) (fun c j h => rfl)), (fun c j h0 h1 h2 => (zxcj h1 (zxu h2 ((fr c j h0 h1 h2).trans rfl)))), (fun c j h0 h1 h2 => ((frL c j h0 h1 h2).trans rfl))⟩
      · refine ⟨(1, (13 - (m + 1)), 0), zlt6 (by omega), [some (zvr (234)), none, none, none, some (zvi (bt)), some (zvi ((m + 1)))], ⟨rfl, rfl, rfl, rfl⟩, (m + 1), fd, bt, rfl, rfl, rfl, rfl, rfl, (by omega), (by omega), (by omega), h40, hnf, (zMs_fr hM1 (fun c j h => by unfold msK at h; exact rfl) (fun c j h => rfl)), (fun c j h0 h1 h2 => ((fr c j h0 h1 h2).trans rfl)), (fun c j h0 h1 h2 => ((frL c j h0 h1 h2).trans rfl))⟩)
