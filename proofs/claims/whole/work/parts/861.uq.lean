/-! uq -/
def T_E_tkfA : ZT := fun args I L R S Q => ∃ (b : Nat) (s : BdS) (kc : Nat) (w : List CuR) (pc : Nat), args = [zvr 138, zvr 82, zvr kc] ∧ (zSh S) ∧ (zRs R) ∧ (zBA b s I L) ∧ (bGd s) ∧ (1 ≤ b ∧ b ≤ 6) ∧ (zDy zT1 zF1 kc R S) ∧ (kc = 106 ∨ kc = 118) ∧ (I kc 0 = (b : Int) - 1) ∧ (zUa kc w pc I) ∧ ((cuAA w pc).length ≤ 40) ∧ ∀ (I' : ZI) (L' : ZI), (I' 138 3 = 12) → (∀ j : Nat, j < 72 → L' 140 j = fcF s (fun n => cuAc w pc n) j) → (∀ c j : Nat, ¬ (c = 138 ∧ j = 3) → I' c j = I c j) → (∀ c j : Nat, ¬ c = 140 → L' c j = L c j) → Q none I' L' R S
theorem sn_E_tkfA : ZSnd 4 4 28 T_E_tkfA := ZSnd.loops (zT4_28 3) (by
  rintro args I L R S Q hz ⟨b, s, kc, w, pc, rfl, hS, hR, hBA, hGd, hb6, hDc, hkc, hbn, hUa, hl40, hQ⟩
  have hk106 : 106 ≤ kc := by omega
  have hk118 : kc ≤ 118 := by omega
  have hb0 : I 82 0 = (b : Int) - 1 := hBA.1.1
  have hRT := hBA.2.2.2.2.1
  have hnn := hGd.2.1.2
  refine ⟨[8], fun nM tM lsM stM I1 L1 R1 S1 => match tM with
      | 8 => ∃ (m : Nat), nM = ((13 - m), 0, 0) ∧ lsM = [some (zvr (138)), some (zvr (82)), some (zvr (kc)), some (zvi (m)), none, none, none] ∧ stM = [] ∧ R1 = R ∧ S1 = S ∧ (m ≤ 12) ∧ (I1 138 3 = 12) ∧ (∀ j : Nat, j < 6 * m → L1 140 j = fcF s (fun n => cuAc w pc n) j) ∧ (∀ c j : Nat, ¬ (c = 138 ∧ j = 3) → I1 c j = I c j) ∧ (∀ c j : Nat, ¬ c = 140 → L1 c j = L c j)
      | _ => False, rfl, ?_, ⟨?_, True.intro⟩⟩
  · refine And.intro (zA_138 hS) ⟨_, (zWi (zRb rfl)), ?_⟩
    refine ⟨((13 - (0 : Nat)), 0, 0), [some (zvr (138)), some (zvr (82)), some (zvr (kc)), some (zvi ((0 : Nat))), none, none, none], ⟨rfl, rfl, rfl, rfl, rfl⟩, 0, rfl, rfl, rfl, rfl, rfl, (by omega), rfl, (fun j hj => absurd hj (by omega)), (fun c j h0 => (zxcj h0 rfl)), (fun c j h0 => rfl)⟩
  · rintro nM lsM stM I1 L1 R1 S1 hz1 ⟨m, rfl, rfl, rfl, rfl, rfl, hm, hm3, hF1, fr, frL⟩
    have hBA_1 : zBA b s I1 L1 := zBA_fr hBA (fun c j h => fr c j (by omega)) (fun c j h => frL c j (by omega))
    have hb01 : I1 82 0 = (b : Int) - 1 := hBA_1.1.1
    have hRT1 := hBA_1.2.2.2.2.1
    have hc90 : I1 90 2 = bnn s := hRT1.2.1
    have hbn1 : I1 kc 0 = (b : Int) - 1 := (fr kc 0 (by omega)).trans hbn
    refine And.intro ⟨(by omega), (zRb rfl)⟩ ⟨fun h11 => ?_, fun h11 => ?_⟩
    · refine hQ _ _ hm3 (fun j9 h9 => hF1 j9 (by omega)) (fun c j h0 => ((fr c j h0).trans rfl)) (fun c j h0 => ((frL c j h0).trans rfl))
    · refine And.intro (zA_82 hS) (zrdR (v := some 90) (zR_82_11 hR) ?_)
      refine And.intro (zA_90 hS) (zrd (v := (bnn s)) hc90 ?_)
      refine And.intro ⟨(by omega), (by omega)⟩ ⟨fun h28 => ?_, fun h28 => ?_⟩
      · refine And.intro (zRb rfl) (zbt rfl ?_)
        refine And.intro (zA_138 hS) (zrdR (v := some 140) (zR_138_2 hR) ?_)
        refine And.intro (zA_82 hS) (zrdR (v := some 90) (zR_82_11 hR) ?_)
        refine And.intro (zA_90 hS) ⟨_, sn_A_atG.up (by decide), ?_⟩
        refine ⟨90, 12, (bnn s), (bN s), (m : Int), (0 : Int), rfl, hS, hR, (zRw_90 hR hS), hRT1, ⟨⟨by omega, by omega⟩, ⟨by decide, by decide⟩⟩, ?_⟩
        intro v73o p73hv p73bhr
        have g73 : (m < bnn s ∧ v73o = bN s m 0) ∨ (bnn s ≤ m ∧ v73o = -1) := (by have e : bN s (m : Int).toNat (0 : Int).toNat = bN s m 0 := rfl; rcases p73hv with y | y <;> omega)
        refine And.intro (by omega) ?_
        refine And.intro ⟨(zx0 rfl), (zP_140 hS (by omega) (by omega))⟩ ⟨_, zW6i (by omega), ?_⟩
        refine And.intro (zA_138 hS) (zrdR (v := some 140) (zR_138_2 hR) ?_)
        refine And.intro (zA_82 hS) (zrdR (v := some 90) (zR_82_11 hR) ?_)
        refine And.intro (zA_90 hS) ⟨_, sn_A_atG.up (by decide), ?_⟩
        refine ⟨90, 12, (bnn s), (bN s), (m : Int), (1 : Int), rfl, hS, hR, (zRw_90 hR hS), hRT1, ⟨⟨by omega, by omega⟩, ⟨by decide, by decide⟩⟩, ?_⟩
        intro v92o p92hv p92bhr
        have g92 : (m < bnn s ∧ v92o = bN s m 1) ∨ (bnn s ≤ m ∧ v92o = -1) := (by have e : bN s (m : Int).toNat (1 : Int).toNat = bN s m 1 := rfl; rcases p92hv with y | y <;> omega)
        refine And.intro (by omega) ?_
        refine And.intro ⟨(zx0 rfl), (zP_140 hS (by omega) (by omega))⟩ ⟨_, zW6i (by omega), ?_⟩
        refine And.intro (zA_138 hS) (zrdR (v := some 140) (zR_138_2 hR) ?_)
        refine And.intro (zA_82 hS) (zrdR (v := some 90) (zR_82_11 hR) ?_)
        refine And.intro (zA_90 hS) ⟨_, sn_A_atG.up (by decide), ?_⟩
        refine ⟨90, 12, (bnn s), (bN s), (m : Int), (2 : Int), rfl, hS, hR, (zRw_90 hR hS), hRT1, ⟨⟨by omega, by omega⟩, ⟨by decide, by decide⟩⟩, ?_⟩
        intro v111o p111hv p111bhr
        have g111 : (m < bnn s ∧ v111o = bN s m 2) ∨ (bnn s ≤ m ∧ v111o = -1) := (by have e : bN s (m : Int).toNat (2 : Int).toNat = bN s m 2 := rfl; rcases p111hv with y | y <;> omega)
        refine And.intro (by omega) ?_
        refine And.intro ⟨(zx0 rfl), (zP_140 hS (by omega) (by omega))⟩ ⟨_, zW6i (by omega), ?_⟩
        refine And.intro (zA_138 hS) (zrdR (v := some 140) (zR_138_2 hR) ?_)
        refine And.intro (zA_82 hS) ⟨_, sn_A_led.up (by decide), ?_⟩
        refine ⟨b, s, (m : Int), rfl, hS, hR, (zBA_fr hBA_1 (fun c j h => rfl) (fun c j h => zxu (by omega) (zxu (by omega) (zxu (by omega) rfl)))), (show r32 (m : Int) from ⟨by omega, by omega⟩), ?_⟩
        intro v126o p126hv
        have g126 : (v126o = 1 ∧ m < bnn s ∧ bN s m 2 = 1) ∨ (v126o = 0 ∧ ¬ (m < bnn s ∧ bN s m 2 = 1)) := (by have e : bN s (m : Int).toNat 2 = bN s m 2 := rfl; rcases p126hv with y | y <;> omega)
        refine And.intro (by omega) ⟨fun h129 => ?_, fun h129 => ?_⟩
        · refine And.intro ⟨(zx0 rfl), (zP_140 hS (by omega) (by omega))⟩ ⟨_, zW6i (zRL rfl), ?_⟩
          refine And.intro (zA_138 hS) (zrdR (v := some 140) (zR_138_2 hR) ?_)
          refine And.intro (zA_82 hS) (zrdR (v := some 90) (zR_82_11 hR) ?_)
          refine And.intro (zA_90 hS) ⟨_, sn_A_atG.up (by decide), ?_⟩
          refine ⟨90, 12, (bnn s), (bN s), (m : Int), (4 : Int), rfl, hS, hR, (zRw_90 hR hS), hRT1, ⟨⟨by omega, by omega⟩, ⟨by decide, by decide⟩⟩, ?_⟩
          intro v163o p163hv p163bhr
          have g163 : (m < bnn s ∧ v163o = bN s m 4) ∨ (bnn s ≤ m ∧ v163o = -1) := (by have e : bN s (m : Int).toNat (4 : Int).toNat = bN s m 4 := rfl; rcases p163hv with y | y <;> omega)
          refine And.intro (by omega) ?_
          refine And.intro ⟨(zx0 rfl), (zP_140 hS (by omega) (by omega))⟩ ⟨_, zW6i (by omega), ?_⟩
          refine And.intro (zA_138 hS) (zrdR (v := some 140) (zR_138_2 hR) ?_)
          refine And.intro (zRb rfl) (zbt rfl ?_)
          refine And.intro ⟨(zx0 rfl), (zP_140 hS (by omega) (by omega))⟩ ⟨_, zW6i (zRL rfl), ?_⟩
          refine ⟨((13 - (m + 1)), 0, 0), zlt6 (by omega), [some (zvr (138)), some (zvr (82)), some (zvr (kc)), some (zvi ((m + 1))), none, none, none], ⟨rfl, rfl, rfl, rfl, rfl⟩, (m + 1), rfl, rfl, rfl, rfl, rfl, (by omega), hm3, (fc_row (f := L1 140) hF1 (by repeat (first | exact (zxe' (by omega)).trans (by first | (rw [fcV_0 (by omega)]; omega) | (rw [fcV_n (by omega)]; omega)) | refine zxcj (by omega) ?_)) (by repeat (first | exact (zxe' (by omega)).trans (by first | (rw [fcV_1 (by omega)]; omega) | (rw [fcV_n (by omega)]; omega)) | refine zxcj (by omega) ?_)) (by repeat (first | exact (zxe' (by omega)).trans (by first | (rw [fcV_2 (by omega)]; omega) | (rw [fcV_n (by omega)]; omega)) | refine zxcj (by omega) ?_)) (by repeat (first | exact (zxe' (by omega)).trans (by first | (rw [fcV_3 (by omega), if_pos (by omega)]; omega) | (rw [fcV_3 (by omega), if_neg (by omega)]) | (rw [fcV_n (by omega)]; omega) | (rw [fcV_n (by omega)])) | refine zxcj (by omega) ?_)) (by repeat (first | exact (zxe' (by omega)).trans (by first | (rw [fcV_4 (by omega)]; omega) | (rw [fcV_n (by omega)]; omega)) | refine zxcj (by omega) ?_)) (by repeat (first | exact (zxe' (by omega)).trans (by first | (rw [fcV_5 (by omega)]; exact p183hv) | (rw [fcV_n (by omega)])) | refine zxcj (by omega) ?_)) (fun j9 h9 => (by repeat (first | exact rfl | refine zxcj (by omega) ?_)))), (fun c j h0 => ((fr c j h0).trans rfl)), (fun c j h0 => (zxu h0 (zxu h0 (zxu h0 (zxu h0 (zxu h0 (zxu h0 ((frL c j h0).trans rfl))))))))⟩
        · refine And.intro (zA_82 hS) (zrdR (v := some 90) (zR_82_11 hR) ?_)
          refine And.intro (zA_90 hS) ⟨_, sn_A_atG.up (by decide), ?_⟩
          refine ⟨90, 12, (bnn s), (bN s), (m : Int), (3 : Int), rfl, hS, hR, (zRw_90 hR hS), hRT1, ⟨⟨by omega, by omega⟩, ⟨by decide, by decide⟩⟩, ?_⟩
          intro v138o p138hv p138bhr
          have g138 : (m < bnn s ∧ v138o = bN s m 3) ∨ (bnn s ≤ m ∧ v138o = -1) := (by have e : bN s (m : Int).toNat (3 : Int).toNat = bN s m 3 := rfl; rcases p138hv with y | y <;> omega)
          refine And.intro (by omega) ?_
          refine And.intro ⟨(zx0 rfl), (zP_140 hS (by omega) (by omega))⟩ ⟨_, zW6i (by omega), ?_⟩
          refine And.intro (zA_138 hS) (zrdR (v := some 140) (zR_138_2 hR) ?_)
          refine And.intro (zA_82 hS) (zrdR (v := some 90) (zR_82_11 hR) ?_)
          refine And.intro (zA_90 hS) ⟨_, sn_A_atG.up (by decide), ?_⟩
          refine ⟨90, 12, (bnn s), (bN s), (m : Int), (4 : Int), rfl, hS, hR, (zRw_90 hR hS), hRT1, ⟨⟨by omega, by omega⟩, ⟨by decide, by decide⟩⟩, ?_⟩
          intro v163o p163hv p163bhr
          have g163 : (m < bnn s ∧ v163o = bN s m 4) ∨ (bnn s ≤ m ∧ v163o = -1) := (by have e : bN s (m : Int).toNat (4 : Int).toNat = bN s m 4 := rfl; rcases p163hv with y | y <;> omega)
          refine And.intro (by omega) ?_
          refine And.intro ⟨(zx0 rfl), (zP_140 hS (by omega) (by omega))⟩ ⟨_, zW6i (by omega), ?_⟩
          refine And.intro (zA_138 hS) (zrdR (v := some 140) (zR_138_2 hR) ?_)
          refine And.intro (zRb rfl) (zbt rfl ?_)
          refine And.intro ⟨(zx0 rfl), (zP_140 hS (by omega) (by omega))⟩ ⟨_, zW6i (zRL rfl), ?_⟩
          refine ⟨((13 - (m + 1)), 0, 0), zlt6 (by omega), [some (zvr (138)), some (zvr (82)), some (zvr (kc)), some (zvi ((m + 1))), none, none, none], ⟨rfl, rfl, rfl, rfl, rfl⟩, (m + 1), rfl, rfl, rfl, rfl, rfl, (by omega), hm3, (fc_row (f := L1 140) hF1 (by repeat (first | exact (zxe' (by omega)).trans (by first | (rw [fcV_0 (by omega)]; omega) | (rw [fcV_n (by omega)]; omega)) | refine zxcj (by omega) ?_)) (by repeat (first | exact (zxe' (by omega)).trans (by first | (rw [fcV_1 (by omega)]; omega) | (rw [fcV_n (by omega)]; omega)) | refine zxcj (by omega) ?_)) (by repeat (first | exact (zxe' (by omega)).trans (by first | (rw [fcV_2 (by omega)]; omega) | (rw [fcV_n (by omega)]; omega)) | refine zxcj (by omega) ?_)) (by repeat (first | exact (zxe' (by omega)).trans (by first | (rw [fcV_3 (by omega), if_pos (by omega)]; omega) | (rw [fcV_3 (by omega), if_neg (by omega)]) | (rw [fcV_n (by omega)]; omega) | (rw [fcV_n (by omega)])) | refine zxcj (by omega) ?_)) (by repeat (first | exact (zxe' (by omega)).trans (by first | (rw [fcV_4 (by omega)]; omega) | (rw [fcV_n (by omega)]; omega)) | refine zxcj (by omega) ?_)) (by repeat (first | exact (zxe' (by omega)).trans (by first | (rw [fcV_5 (by omega)]; exact p183hv) | (rw [fcV_n (by omega)])) | refine zxcj (by omega) ?_)) (fun j9 h9 => (by repeat (first | exact rfl | refine zxcj (by omega) ?_)))), (fun c j h0 => ((fr c j h0).trans rfl)), (fun c j h0 => (zxu h0 (zxu h0 (zxu h0 (zxu h0 (zxu h0 (zxu h0 ((frL c j h0).trans rfl))))))))⟩
      · refine And.intro (zRb rfl) (zbf rfl ?_)
        refine And.intro (zDX hDc 0 rfl) (zrd (v := (b - 1)) hbn1 ?_)
        refine And.intro (zA_82 hS) (zrd (v := (b - 1)) hb01 ?_)
        refine And.intro ⟨(by omega), (by omega)⟩ ⟨(fun h51 => False.elim (by omega)), fun h51 => ?_⟩
        refine And.intro (zA_138 hS) (zrdR (v := some 140) (zR_138_2 hR) ?_)
        refine And.intro (zA_82 hS) (zrdR (v := some 90) (zR_82_11 hR) ?_)
        refine And.intro (zA_90 hS) ⟨_, sn_A_atG.up (by decide), ?_⟩
        refine ⟨90, 12, (bnn s), (bN s), (m : Int), (0 : Int), rfl, hS, hR, (zRw_90 hR hS), hRT1, ⟨⟨by omega, by omega⟩, ⟨by decide, by decide⟩⟩, ?_⟩
        intro v73o p73hv p73bhr
        have g73 : (m < bnn s ∧ v73o = bN s m 0) ∨ (bnn s ≤ m ∧ v73o = -1) := (by have e : bN s (m : Int).toNat (0 : Int).toNat = bN s m 0 := rfl; rcases p73hv with y | y <;> omega)
        refine And.intro (by omega) ?_
        refine And.intro ⟨(zx0 rfl), (zP_140 hS (by omega) (by omega))⟩ ⟨_, zW6i (by omega), ?_⟩
        refine And.intro (zA_138 hS) (zrdR (v := some 140) (zR_138_2 hR) ?_)
        refine And.intro (zA_82 hS) (zrdR (v := some 90) (zR_82_11 hR) ?_)
        refine And.intro (zA_90 hS) ⟨_, sn_A_atG.up (by decide), ?_⟩
        refine ⟨90, 12, (bnn s), (bN s), (m : Int), (1 : Int), rfl, hS, hR, (zRw_90 hR hS), hRT1, ⟨⟨by omega, by omega⟩, ⟨by decide, by decide⟩⟩, ?_⟩
        intro v92o p92hv p92bhr
        have g92 : (m < bnn s ∧ v92o = bN s m 1) ∨ (bnn s ≤ m ∧ v92o = -1) := (by have e : bN s (m : Int).toNat (1 : Int).toNat = bN s m 1 := rfl; rcases p92hv with y | y <;> omega)
        refine And.intro (by omega) ?_
        refine And.intro ⟨(zx0 rfl), (zP_140 hS (by omega) (by omega))⟩ ⟨_, zW6i (by omega), ?_⟩
        refine And.intro (zA_138 hS) (zrdR (v := some 140) (zR_138_2 hR) ?_)
        refine And.intro (zA_82 hS) (zrdR (v := some 90) (zR_82_11 hR) ?_)
        refine And.intro (zA_90 hS) ⟨_, sn_A_atG.up (by decide), ?_⟩
        refine ⟨90, 12, (bnn s), (bN s), (m : Int), (2 : Int), rfl, hS, hR, (zRw_90 hR hS), hRT1, ⟨⟨by omega, by omega⟩, ⟨by decide, by decide⟩⟩, ?_⟩
        intro v111o p111hv p111bhr
        have g111 : (m < bnn s ∧ v111o = bN s m 2) ∨ (bnn s ≤ m ∧ v111o = -1) := (by have e : bN s (m : Int).toNat (2 : Int).toNat = bN s m 2 := rfl; rcases p111hv with y | y <;> omega)
        refine And.intro (by omega) ?_
        refine And.intro ⟨(zx0 rfl), (zP_140 hS (by omega) (by omega))⟩ ⟨_, zW6i (by omega), ?_⟩
        refine And.intro (zA_138 hS) (zrdR (v := some 140) (zR_138_2 hR) ?_)
        refine And.intro (zA_82 hS) ⟨_, sn_A_led.up (by decide), ?_⟩
        refine ⟨b, s, (m : Int), rfl, hS, hR, (zBA_fr hBA_1 (fun c j h => rfl) (fun c j h => zxu (by omega) (zxu (by omega) (zxu (by omega) rfl)))), (show r32 (m : Int) from ⟨by omega, by omega⟩), ?_⟩
        intro v126o p126hv
        have g126 : (v126o = 1 ∧ m < bnn s ∧ bN s m 2 = 1) ∨ (v126o = 0 ∧ ¬ (m < bnn s ∧ bN s m 2 = 1)) := (by have e : bN s (m : Int).toNat 2 = bN s m 2 := rfl; rcases p126hv with y | y <;> omega)
        refine And.intro (by omega) ⟨fun h129 => ?_, fun h129 => ?_⟩
        · refine And.intro ⟨(zx0 rfl), (zP_140 hS (by omega) (by omega))⟩ ⟨_, zW6i (zRL rfl), ?_⟩
          refine And.intro (zA_138 hS) (zrdR (v := some 140) (zR_138_2 hR) ?_)
          refine And.intro (zA_82 hS) (zrdR (v := some 90) (zR_82_11 hR) ?_)
          refine And.intro (zA_90 hS) ⟨_, sn_A_atG.up (by decide), ?_⟩
          refine ⟨90, 12, (bnn s), (bN s), (m : Int), (4 : Int), rfl, hS, hR, (zRw_90 hR hS), hRT1, ⟨⟨by omega, by omega⟩, ⟨by decide, by decide⟩⟩, ?_⟩
          intro v163o p163hv p163bhr
          have g163 : (m < bnn s ∧ v163o = bN s m 4) ∨ (bnn s ≤ m ∧ v163o = -1) := (by have e : bN s (m : Int).toNat (4 : Int).toNat = bN s m 4 := rfl; rcases p163hv with y | y <;> omega)
          refine And.intro (by omega) ?_
          refine And.intro ⟨(zx0 rfl), (zP_140 hS (by omega) (by omega))⟩ ⟨_, zW6i (by omega), ?_⟩
          refine And.intro (zA_138 hS) (zrdR (v := some 140) (zR_138_2 hR) ?_)
          refine And.intro (zRb rfl) (zbf rfl ?_)
          refine And.intro (zDX hDc 0 rfl) ⟨_, sn_U_alc.up (by decide), ?_⟩
          refine ⟨kc, w, pc, (m : Int), rfl, hS, hR, hDc, hkc, (zUa_fr hUa (fun c j h => fr c j (by omega))), hl40, (show r32 (m : Int) from ⟨by omega, by omega⟩), ?_⟩
          intro v183o p183hv
          have g183 : 0 ≤ v183o ∧ v183o ≤ 40 := (by have e : zct (cuQA w pc (m : Int)) (cuAA w pc).length = cuAc w pc (m : Int) := cuQA_c; have e2 := zct_le (cuQA w pc (m : Int)) (cuAA w pc).length; omega)
          refine And.intro (by omega) ?_
          refine And.intro ⟨(zx0 rfl), (zP_140 hS (by omega) (by omega))⟩ ⟨_, zW6i (by omega), ?_⟩
          refine ⟨((13 - (m + 1)), 0, 0), zlt6 (by omega), [some (zvr (138)), some (zvr (82)), some (zvr (kc)), some (zvi ((m + 1))), none, none, none], ⟨rfl, rfl, rfl, rfl, rfl⟩, (m + 1), rfl, rfl, rfl, rfl, rfl, (by omega), hm3, (fc_row (f := L1 140) hF1 (by repeat (first | exact (zxe' (by omega)).trans (by first | (rw [fcV_0 (by omega)]; omega) | (rw [fcV_n (by omega)]; omega)) | refine zxcj (by omega) ?_)) (by repeat (first | exact (zxe' (by omega)).trans (by first | (rw [fcV_1 (by omega)]; omega) | (rw [fcV_n (by omega)]; omega)) | refine zxcj (by omega) ?_)) (by repeat (first | exact (zxe' (by omega)).trans (by first | (rw [fcV_2 (by omega)]; omega) | (rw [fcV_n (by omega)]; omega)) | refine zxcj (by omega) ?_)) (by repeat (first | exact (zxe' (by omega)).trans (by first | (rw [fcV_3 (by omega), if_pos (by omega)]; omega) | (rw [fcV_3 (by omega), if_neg (by omega)]) | (rw [fcV_n (by omega)]; omega) | (rw [fcV_n (by omega)])) | refine zxcj (by omega) ?_)) (by repeat (first | exact (zxe' (by omega)).trans (by first | (rw [fcV_4 (by omega)]; omega) | (rw [fcV_n (by omega)]; omega)) | refine zxcj (by omega) ?_)) (by repeat (first | exact (zxe' (by omega)).trans (by first | (rw [fcV_5 (by omega)]; exact p183hv) | (rw [fcV_n (by omega)])) | refine zxcj (by omega) ?_)) (fun j9 h9 => (by repeat (first | exact rfl | refine zxcj (by omega) ?_)))), (fun c j h0 => ((fr c j h0).trans rfl)), (fun c j h0 => (zxu h0 (zxu h0 (zxu h0 (zxu h0 (zxu h0 (zxu h0 ((frL c j h0).trans rfl))))))))⟩
        · refine And.intro (zA_82 hS) (zrdR (v := some 90) (zR_82_11 hR) ?_)
          refine And.intro (zA_90 hS) ⟨_, sn_A_atG.up (by decide), ?_⟩
          refine ⟨90, 12, (bnn s), (bN s), (m : Int), (3 : Int), rfl, hS, hR, (zRw_90 hR hS), hRT1, ⟨⟨by omega, by omega⟩, ⟨by decide, by decide⟩⟩, ?_⟩
          intro v138o p138hv p138bhr
          have g138 : (m < bnn s ∧ v138o = bN s m 3) ∨ (bnn s ≤ m ∧ v138o = -1) := (by have e : bN s (m : Int).toNat (3 : Int).toNat = bN s m 3 := rfl; rcases p138hv with y | y <;> omega)
          refine And.intro (by omega) ?_
          refine And.intro ⟨(zx0 rfl), (zP_140 hS (by omega) (by omega))⟩ ⟨_, zW6i (by omega), ?_⟩
          refine And.intro (zA_138 hS) (zrdR (v := some 140) (zR_138_2 hR) ?_)
          refine And.intro (zA_82 hS) (zrdR (v := some 90) (zR_82_11 hR) ?_)
          refine And.intro (zA_90 hS) ⟨_, sn_A_atG.up (by decide), ?_⟩
          refine ⟨90, 12, (bnn s), (bN s), (m : Int), (4 : Int), rfl, hS, hR, (zRw_90 hR hS), hRT1, ⟨⟨by omega, by omega⟩, ⟨by decide, by decide⟩⟩, ?_⟩
          intro v163o p163hv p163bhr
          have g163 : (m < bnn s ∧ v163o = bN s m 4) ∨ (bnn s ≤ m ∧ v163o = -1) := (by have e : bN s (m : Int).toNat (4 : Int).toNat = bN s m 4 := rfl; rcases p163hv with y | y <;> omega)
          refine And.intro (by omega) ?_
          refine And.intro ⟨(zx0 rfl), (zP_140 hS (by omega) (by omega))⟩ ⟨_, zW6i (by omega), ?_⟩
          refine And.intro (zA_138 hS) (zrdR (v := some 140) (zR_138_2 hR) ?_)
          refine And.intro (zRb rfl) (zbf rfl ?_)
          refine And.intro (zDX hDc 0 rfl) ⟨_, sn_U_alc.up (by decide), ?_⟩
          refine ⟨kc, w, pc, (m : Int), rfl, hS, hR, hDc, hkc, (zUa_fr hUa (fun c j h => fr c j (by omega))), hl40, (show r32 (m : Int) from ⟨by omega, by omega⟩), ?_⟩
          intro v183o p183hv
          have g183 : 0 ≤ v183o ∧ v183o ≤ 40 := (by have e : zct (cuQA w pc (m : Int)) (cuAA w pc).length = cuAc w pc (m : Int) := cuQA_c; have e2 := zct_le (cuQA w pc (m : Int)) (cuAA w pc).length; omega)
          refine And.intro (by omega) ?_
          refine And.intro ⟨(zx0 rfl), (zP_140 hS (by omega) (by omega))⟩ ⟨_, zW6i (by omega), ?_⟩
          refine ⟨((13 - (m + 1)), 0, 0), zlt6 (by omega), [some (zvr (138)), some (zvr (82)), some (zvr (kc)), some (zvi ((m + 1))), none, none, none], ⟨rfl, rfl, rfl, rfl, rfl⟩, (m + 1), rfl, rfl, rfl, rfl, rfl, (by omega), hm3, (fc_row (f := L1 140) hF1 (by repeat (first | exact (zxe' (by omega)).trans (by first | (rw [fcV_0 (by omega)]; omega) | (rw [fcV_n (by omega)]; omega)) | refine zxcj (by omega) ?_)) (by repeat (first | exact (zxe' (by omega)).trans (by first | (rw [fcV_1 (by omega)]; omega) | (rw [fcV_n (by omega)]; omega)) | refine zxcj (by omega) ?_)) (by repeat (first | exact (zxe' (by omega)).trans (by first | (rw [fcV_2 (by omega)]; omega) | (rw [fcV_n (by omega)]; omega)) | refine zxcj (by omega) ?_)) (by repeat (first | exact (zxe' (by omega)).trans (by first | (rw [fcV_3 (by omega), if_pos (by omega)]; omega) | (rw [fcV_3 (by omega), if_neg (by omega)]) | (rw [fcV_n (by omega)]; omega) | (rw [fcV_n (by omega)])) | refine zxcj (by omega) ?_)) (by repeat (first | exact (zxe' (by omega)).trans (by first | (rw [fcV_4 (by omega)]; omega) | (rw [fcV_n (by omega)]; omega)) | refine zxcj (by omega) ?_)) (by repeat (first | exact (zxe' (by omega)).trans (by first | (rw [fcV_5 (by omega)]; exact p183hv) | (rw [fcV_n (by omega)])) | refine zxcj (by omega) ?_)) (fun j9 h9 => (by repeat (first | exact rfl | refine zxcj (by omega) ?_)))), (fun c j h0 => ((fr c j h0).trans rfl)), (fun c j h0 => (zxu h0 (zxu h0 (zxu h0 (zxu h0 (zxu h0 (zxu h0 ((frL c j h0).trans rfl))))))))⟩)
def T_E_tkfB : ZT := fun args I L R S Q => ∃ (b : Nat) (s : BdS) (kc : Nat) (w : List CuR) (pc : Nat), args = [zvr 138, zvr 82, zvr kc] ∧ (zSh S) ∧ (zRs R) ∧ (zBA b s I L) ∧ (bGd s) ∧ (1 ≤ b ∧ b ≤ 6) ∧ (zDy zT1 zF1 kc R S) ∧ (kc = 106 ∨ kc = 118) ∧ (¬ I kc 0 = (b : Int) - 1) ∧ ∀ (I' : ZI) (L' : ZI), (I' 138 3 = 12) → (∀ j : Nat, j < 72 → L' 140 j = fcF s (fun n => -1) j) → (∀ c j : Nat, ¬ (c = 138 ∧ j = 3) → I' c j = I c j) → (∀ c j : Nat, ¬ c = 140 → L' c j = L c j) → Q none I' L' R S
theorem sn_E_tkfB : ZSnd 4 4 28 T_E_tkfB := ZSnd.loops (zT4_28 3) (by
  rintro args I L R S Q hz ⟨b, s, kc, w, pc, rfl, hS, hR, hBA, hGd, hb6, hDc, hkc, hbn, hQ⟩
  have hk106 : 106 ≤ kc := by omega
  have hk118 : kc ≤ 118 := by omega
  have hb0 : I 82 0 = (b : Int) - 1 := hBA.1.1
  have hRT := hBA.2.2.2.2.1
  have hnn := hGd.2.1.2
  refine ⟨[8], fun nM tM lsM stM I1 L1 R1 S1 => match tM with
      | 8 => ∃ (m : Nat), nM = ((13 - m), 0, 0) ∧ lsM = [some (zvr (138)), some (zvr (82)), some (zvr (kc)), some (zvi (m)), none, none, none] ∧ stM = [] ∧ R1 = R ∧ S1 = S ∧ (m ≤ 12) ∧ (I1 138 3 = 12) ∧ (∀ j : Nat, j < 6 * m → L1 140 j = fcF s (fun n => -1) j) ∧ (∀ c j : Nat, ¬ (c = 138 ∧ j = 3) → I1 c j = I c j) ∧ (∀ c j : Nat, ¬ c = 140 → L1 c j = L c j)
      | _ => False, rfl, ?_, ⟨?_, True.intro⟩⟩
  · refine And.intro (zA_138 hS) ⟨_, (zWi (zRb rfl)), ?_⟩
    refine ⟨((13 - (0 : Nat)), 0, 0), [some (zvr (138)), some (zvr (82)), some (zvr (kc)), some (zvi ((0 : Nat))), none, none, none], ⟨rfl, rfl, rfl, rfl, rfl⟩, 0, rfl, rfl, rfl, rfl, rfl, (by omega), rfl, (fun j hj => absurd hj (by omega)), (fun c j h0 => (zxcj h0 rfl)), (fun c j h0 => rfl)⟩
  · rintro nM lsM stM I1 L1 R1 S1 hz1 ⟨m, rfl, rfl, rfl, rfl, rfl, hm, hm3, hF1, fr, frL⟩
    have hBA_1 : zBA b s I1 L1 := zBA_fr hBA (fun c j h => fr c j (by omega)) (fun c j h => frL c j (by omega))
    have hb01 : I1 82 0 = (b : Int) - 1 := hBA_1.1.1
    have hRT1 := hBA_1.2.2.2.2.1
    have hc90 : I1 90 2 = bnn s := hRT1.2.1
    obtain ⟨x0, hx0⟩ : ∃ x0, I1 kc 0 = x0 := ⟨_, rfl⟩
    obtain ⟨hx1, hx2⟩ : r32 x0 := by rw [← hx0]; exact hz1.1 kc 0
    have hbn1 : ¬ x0 = (b : Int) - 1 := by rw [← hx0, fr kc 0 (by omega)]; exact hbn
    refine And.intro ⟨(by omega), (zRb rfl)⟩ ⟨fun h11 => ?_, fun h11 => ?_⟩
    · refine hQ _ _ hm3 (fun j9 h9 => hF1 j9 (by omega)) (fun c j h0 => ((fr c j h0).trans rfl)) (fun c j h0 => ((frL c j h0).trans rfl))
    · refine And.intro (zA_82 hS) (zrdR (v := some 90) (zR_82_11 hR) ?_)
      refine And.intro (zA_90 hS) (zrd (v := (bnn s)) hc90 ?_)
      refine And.intro ⟨(by omega), (by omega)⟩ ⟨fun h28 => ?_, fun h28 => ?_⟩
      · refine And.intro (zRb rfl) (zbt rfl ?_)
        refine And.intro (zA_138 hS) (zrdR (v := some 140) (zR_138_2 hR) ?_)
        refine And.intro (zA_82 hS) (zrdR (v := some 90) (zR_82_11 hR) ?_)
        refine And.intro (zA_90 hS) ⟨_, sn_A_atG.up (by decide), ?_⟩
        refine ⟨90, 12, (bnn s), (bN s), (m : Int), (0 : Int), rfl, hS, hR, (zRw_90 hR hS), hRT1, ⟨⟨by omega, by omega⟩, ⟨by decide, by decide⟩⟩, ?_⟩
        intro v73o p73hv p73bhr
        have g73 : (m < bnn s ∧ v73o = bN s m 0) ∨ (bnn s ≤ m ∧ v73o = -1) := (by have e : bN s (m : Int).toNat (0 : Int).toNat = bN s m 0 := rfl; rcases p73hv with y | y <;> omega)
        refine And.intro (by omega) ?_
        refine And.intro ⟨(zx0 rfl), (zP_140 hS (by omega) (by omega))⟩ ⟨_, zW6i (by omega), ?_⟩
        refine And.intro (zA_138 hS) (zrdR (v := some 140) (zR_138_2 hR) ?_)
        refine And.intro (zA_82 hS) (zrdR (v := some 90) (zR_82_11 hR) ?_)
        refine And.intro (zA_90 hS) ⟨_, sn_A_atG.up (by decide), ?_⟩
        refine ⟨90, 12, (bnn s), (bN s), (m : Int), (1 : Int), rfl, hS, hR, (zRw_90 hR hS), hRT1, ⟨⟨by omega, by omega⟩, ⟨by decide, by decide⟩⟩, ?_⟩
        intro v92o p92hv p92bhr
        have g92 : (m < bnn s ∧ v92o = bN s m 1) ∨ (bnn s ≤ m ∧ v92o = -1) := (by have e : bN s (m : Int).toNat (1 : Int).toNat = bN s m 1 := rfl; rcases p92hv with y | y <;> omega)
        refine And.intro (by omega) ?_
        refine And.intro ⟨(zx0 rfl), (zP_140 hS (by omega) (by omega))⟩ ⟨_, zW6i (by omega), ?_⟩
        refine And.intro (zA_138 hS) (zrdR (v := some 140) (zR_138_2 hR) ?_)
        refine And.intro (zA_82 hS) (zrdR (v := some 90) (zR_82_11 hR) ?_)
        refine And.intro (zA_90 hS) ⟨_, sn_A_atG.up (by decide), ?_⟩
        refine ⟨90, 12, (bnn s), (bN s), (m : Int), (2 : Int), rfl, hS, hR, (zRw_90 hR hS), hRT1, ⟨⟨by omega, by omega⟩, ⟨by decide, by decide⟩⟩, ?_⟩
        intro v111o p111hv p111bhr
        have g111 : (m < bnn s ∧ v111o = bN s m 2) ∨ (bnn s ≤ m ∧ v111o = -1) := (by have e : bN s (m : Int).toNat (2 : Int).toNat = bN s m 2 := rfl; rcases p111hv with y | y <;> omega)
        refine And.intro (by omega) ?_
        refine And.intro ⟨(zx0 rfl), (zP_140 hS (by omega) (by omega))⟩ ⟨_, zW6i (by omega), ?_⟩
        refine And.intro (zA_138 hS) (zrdR (v := some 140) (zR_138_2 hR) ?_)
        refine And.intro (zA_82 hS) ⟨_, sn_A_led.up (by decide), ?_⟩
        refine ⟨b, s, (m : Int), rfl, hS, hR, (zBA_fr hBA_1 (fun c j h => rfl) (fun c j h => zxu (by omega) (zxu (by omega) (zxu (by omega) rfl)))), (show r32 (m : Int) from ⟨by omega, by omega⟩), ?_⟩
        intro v126o p126hv
        have g126 : (v126o = 1 ∧ m < bnn s ∧ bN s m 2 = 1) ∨ (v126o = 0 ∧ ¬ (m < bnn s ∧ bN s m 2 = 1)) := (by have e : bN s (m : Int).toNat 2 = bN s m 2 := rfl; rcases p126hv with y | y <;> omega)
        refine And.intro (by omega) ⟨fun h129 => ?_, fun h129 => ?_⟩
        · refine And.intro ⟨(zx0 rfl), (zP_140 hS (by omega) (by omega))⟩ ⟨_, zW6i (zRL rfl), ?_⟩
          refine And.intro (zA_138 hS) (zrdR (v := some 140) (zR_138_2 hR) ?_)
          refine And.intro (zA_82 hS) (zrdR (v := some 90) (zR_82_11 hR) ?_)
          refine And.intro (zA_90 hS) ⟨_, sn_A_atG.up (by decide), ?_⟩
          refine ⟨90, 12, (bnn s), (bN s), (m : Int), (4 : Int), rfl, hS, hR, (zRw_90 hR hS), hRT1, ⟨⟨by omega, by omega⟩, ⟨by decide, by decide⟩⟩, ?_⟩
          intro v163o p163hv p163bhr
          have g163 : (m < bnn s ∧ v163o = bN s m 4) ∨ (bnn s ≤ m ∧ v163o = -1) := (by have e : bN s (m : Int).toNat (4 : Int).toNat = bN s m 4 := rfl; rcases p163hv with y | y <;> omega)
          refine And.intro (by omega) ?_
          refine And.intro ⟨(zx0 rfl), (zP_140 hS (by omega) (by omega))⟩ ⟨_, zW6i (by omega), ?_⟩
          refine And.intro (zA_138 hS) (zrdR (v := some 140) (zR_138_2 hR) ?_)
          refine And.intro (zRb rfl) (zbt rfl ?_)
          refine And.intro ⟨(zx0 rfl), (zP_140 hS (by omega) (by omega))⟩ ⟨_, zW6i (zRL rfl), ?_⟩
          refine ⟨((13 - (m + 1)), 0, 0), zlt6 (by omega), [some (zvr (138)), some (zvr (82)), some (zvr (kc)), some (zvi ((m + 1))), none, none, none], ⟨rfl, rfl, rfl, rfl, rfl⟩, (m + 1), rfl, rfl, rfl, rfl, rfl, (by omega), hm3, (fc_row (f := L1 140) hF1 (by repeat (first | exact (zxe' (by omega)).trans (by first | (rw [fcV_0 (by omega)]; omega) | (rw [fcV_n (by omega)]; omega)) | refine zxcj (by omega) ?_)) (by repeat (first | exact (zxe' (by omega)).trans (by first | (rw [fcV_1 (by omega)]; omega) | (rw [fcV_n (by omega)]; omega)) | refine zxcj (by omega) ?_)) (by repeat (first | exact (zxe' (by omega)).trans (by first | (rw [fcV_2 (by omega)]; omega) | (rw [fcV_n (by omega)]; omega)) | refine zxcj (by omega) ?_)) (by repeat (first | exact (zxe' (by omega)).trans (by first | (rw [fcV_3 (by omega), if_pos (by omega)]; omega) | (rw [fcV_3 (by omega), if_neg (by omega)]) | (rw [fcV_n (by omega)]; omega) | (rw [fcV_n (by omega)])) | refine zxcj (by omega) ?_)) (by repeat (first | exact (zxe' (by omega)).trans (by first | (rw [fcV_4 (by omega)]; omega) | (rw [fcV_n (by omega)]; omega)) | refine zxcj (by omega) ?_)) (by repeat (first | exact (zxe' (by omega)).trans (by first | (rw [fcV_5 (by omega)]) | (rw [fcV_n (by omega)])) | refine zxcj (by omega) ?_)) (fun j9 h9 => (by repeat (first | exact rfl | refine zxcj (by omega) ?_)))), (fun c j h0 => ((fr c j h0).trans rfl)), (fun c j h0 => (zxu h0 (zxu h0 (zxu h0 (zxu h0 (zxu h0 (zxu h0 ((frL c j h0).trans rfl))))))))⟩
        · refine And.intro (zA_82 hS) (zrdR (v := some 90) (zR_82_11 hR) ?_)
          refine And.intro (zA_90 hS) ⟨_, sn_A_atG.up (by decide), ?_⟩
          refine ⟨90, 12, (bnn s), (bN s), (m : Int), (3 : Int), rfl, hS, hR, (zRw_90 hR hS), hRT1, ⟨⟨by omega, by omega⟩, ⟨by decide, by decide⟩⟩, ?_⟩
          intro v138o p138hv p138bhr
          have g138 : (m < bnn s ∧ v138o = bN s m 3) ∨ (bnn s ≤ m ∧ v138o = -1) := (by have e : bN s (m : Int).toNat (3 : Int).toNat = bN s m 3 := rfl; rcases p138hv with y | y <;> omega)
          refine And.intro (by omega) ?_
          refine And.intro ⟨(zx0 rfl), (zP_140 hS (by omega) (by omega))⟩ ⟨_, zW6i (by omega), ?_⟩
          refine And.intro (zA_138 hS) (zrdR (v := some 140) (zR_138_2 hR) ?_)
          refine And.intro (zA_82 hS) (zrdR (v := some 90) (zR_82_11 hR) ?_)
          refine And.intro (zA_90 hS) ⟨_, sn_A_atG.up (by decide), ?_⟩
          refine ⟨90, 12, (bnn s), (bN s), (m : Int), (4 : Int), rfl, hS, hR, (zRw_90 hR hS), hRT1, ⟨⟨by omega, by omega⟩, ⟨by decide, by decide⟩⟩, ?_⟩
          intro v163o p163hv p163bhr
          have g163 : (m < bnn s ∧ v163o = bN s m 4) ∨ (bnn s ≤ m ∧ v163o = -1) := (by have e : bN s (m : Int).toNat (4 : Int).toNat = bN s m 4 := rfl; rcases p163hv with y | y <;> omega)
          refine And.intro (by omega) ?_
          refine And.intro ⟨(zx0 rfl), (zP_140 hS (by omega) (by omega))⟩ ⟨_, zW6i (by omega), ?_⟩
          refine And.intro (zA_138 hS) (zrdR (v := some 140) (zR_138_2 hR) ?_)
          refine And.intro (zRb rfl) (zbt rfl ?_)
          refine And.intro ⟨(zx0 rfl), (zP_140 hS (by omega) (by omega))⟩ ⟨_, zW6i (zRL rfl), ?_⟩
          refine ⟨((13 - (m + 1)), 0, 0), zlt6 (by omega), [some (zvr (138)), some (zvr (82)), some (zvr (kc)), some (zvi ((m + 1))), none, none, none], ⟨rfl, rfl, rfl, rfl, rfl⟩, (m + 1), rfl, rfl, rfl, rfl, rfl, (by omega), hm3, (fc_row (f := L1 140) hF1 (by repeat (first | exact (zxe' (by omega)).trans (by first | (rw [fcV_0 (by omega)]; omega) | (rw [fcV_n (by omega)]; omega)) | refine zxcj (by omega) ?_)) (by repeat (first | exact (zxe' (by omega)).trans (by first | (rw [fcV_1 (by omega)]; omega) | (rw [fcV_n (by omega)]; omega)) | refine zxcj (by omega) ?_)) (by repeat (first | exact (zxe' (by omega)).trans (by first | (rw [fcV_2 (by omega)]; omega) | (rw [fcV_n (by omega)]; omega)) | refine zxcj (by omega) ?_)) (by repeat (first | exact (zxe' (by omega)).trans (by first | (rw [fcV_3 (by omega), if_pos (by omega)]; omega) | (rw [fcV_3 (by omega), if_neg (by omega)]) | (rw [fcV_n (by omega)]; omega) | (rw [fcV_n (by omega)])) | refine zxcj (by omega) ?_)) (by repeat (first | exact (zxe' (by omega)).trans (by first | (rw [fcV_4 (by omega)]; omega) | (rw [fcV_n (by omega)]; omega)) | refine zxcj (by omega) ?_)) (by repeat (first | exact (zxe' (by omega)).trans (by first | (rw [fcV_5 (by omega)]) | (rw [fcV_n (by omega)])) | refine zxcj (by omega) ?_)) (fun j9 h9 => (by repeat (first | exact rfl | refine zxcj (by omega) ?_)))), (fun c j h0 => ((fr c j h0).trans rfl)), (fun c j h0 => (zxu h0 (zxu h0 (zxu h0 (zxu h0 (zxu h0 (zxu h0 ((frL c j h0).trans rfl))))))))⟩
      · refine And.intro (zRb rfl) (zbf rfl ?_)
        refine And.intro (zDX hDc 0 rfl) (zrd (v := x0) hx0 ?_)
        refine And.intro (zA_82 hS) (zrd (v := (b - 1)) hb01 ?_)
        refine And.intro ⟨(by omega), (by omega)⟩ ⟨fun h51 => ?_, fun h51 => ?_⟩
        · refine And.intro (zA_138 hS) (zrdR (v := some 140) (zR_138_2 hR) ?_)
          refine And.intro (zA_82 hS) (zrdR (v := some 90) (zR_82_11 hR) ?_)
          refine And.intro (zA_90 hS) ⟨_, sn_A_atG.up (by decide), ?_⟩
          refine ⟨90, 12, (bnn s), (bN s), (m : Int), (0 : Int), rfl, hS, hR, (zRw_90 hR hS), hRT1, ⟨⟨by omega, by omega⟩, ⟨by decide, by decide⟩⟩, ?_⟩
          intro v73o p73hv p73bhr
          have g73 : (m < bnn s ∧ v73o = bN s m 0) ∨ (bnn s ≤ m ∧ v73o = -1) := (by have e : bN s (m : Int).toNat (0 : Int).toNat = bN s m 0 := rfl; rcases p73hv with y | y <;> omega)
          refine And.intro (by omega) ?_
          refine And.intro ⟨(zx0 rfl), (zP_140 hS (by omega) (by omega))⟩ ⟨_, zW6i (by omega), ?_⟩
          refine And.intro (zA_138 hS) (zrdR (v := some 140) (zR_138_2 hR) ?_)
          refine And.intro (zA_82 hS) (zrdR (v := some 90) (zR_82_11 hR) ?_)
          refine And.intro (zA_90 hS) ⟨_, sn_A_atG.up (by decide), ?_⟩
          refine ⟨90, 12, (bnn s), (bN s), (m : Int), (1 : Int), rfl, hS, hR, (zRw_90 hR hS), hRT1, ⟨⟨by omega, by omega⟩, ⟨by decide, by decide⟩⟩, ?_⟩
          intro v92o p92hv p92bhr
          have g92 : (m < bnn s ∧ v92o = bN s m 1) ∨ (bnn s ≤ m ∧ v92o = -1) := (by have e : bN s (m : Int).toNat (1 : Int).toNat = bN s m 1 := rfl; rcases p92hv with y | y <;> omega)
          refine And.intro (by omega) ?_
          refine And.intro ⟨(zx0 rfl), (zP_140 hS (by omega) (by omega))⟩ ⟨_, zW6i (by omega), ?_⟩
          refine And.intro (zA_138 hS) (zrdR (v := some 140) (zR_138_2 hR) ?_)
          refine And.intro (zA_82 hS) (zrdR (v := some 90) (zR_82_11 hR) ?_)
          refine And.intro (zA_90 hS) ⟨_, sn_A_atG.up (by decide), ?_⟩
          refine ⟨90, 12, (bnn s), (bN s), (m : Int), (2 : Int), rfl, hS, hR, (zRw_90 hR hS), hRT1, ⟨⟨by omega, by omega⟩, ⟨by decide, by decide⟩⟩, ?_⟩
          intro v111o p111hv p111bhr
          have g111 : (m < bnn s ∧ v111o = bN s m 2) ∨ (bnn s ≤ m ∧ v111o = -1) := (by have e : bN s (m : Int).toNat (2 : Int).toNat = bN s m 2 := rfl; rcases p111hv with y | y <;> omega)
          refine And.intro (by omega) ?_
          refine And.intro ⟨(zx0 rfl), (zP_140 hS (by omega) (by omega))⟩ ⟨_, zW6i (by omega), ?_⟩
          refine And.intro (zA_138 hS) (zrdR (v := some 140) (zR_138_2 hR) ?_)
          refine And.intro (zA_82 hS) ⟨_, sn_A_led.up (by decide), ?_⟩
          refine ⟨b, s, (m : Int), rfl, hS, hR, (zBA_fr hBA_1 (fun c j h => rfl) (fun c j h => zxu (by omega) (zxu (by omega) (zxu (by omega) rfl)))), (show r32 (m : Int) from ⟨by omega, by omega⟩), ?_⟩
          intro v126o p126hv
          have g126 : (v126o = 1 ∧ m < bnn s ∧ bN s m 2 = 1) ∨ (v126o = 0 ∧ ¬ (m < bnn s ∧ bN s m 2 = 1)) := (by have e : bN s (m : Int).toNat 2 = bN s m 2 := rfl; rcases p126hv with y | y <;> omega)
          refine And.intro (by omega) ⟨fun h129 => ?_, fun h129 => ?_⟩
          · refine And.intro ⟨(zx0 rfl), (zP_140 hS (by omega) (by omega))⟩ ⟨_, zW6i (zRL rfl), ?_⟩
            refine And.intro (zA_138 hS) (zrdR (v := some 140) (zR_138_2 hR) ?_)
            refine And.intro (zA_82 hS) (zrdR (v := some 90) (zR_82_11 hR) ?_)
            refine And.intro (zA_90 hS) ⟨_, sn_A_atG.up (by decide), ?_⟩
            refine ⟨90, 12, (bnn s), (bN s), (m : Int), (4 : Int), rfl, hS, hR, (zRw_90 hR hS), hRT1, ⟨⟨by omega, by omega⟩, ⟨by decide, by decide⟩⟩, ?_⟩
            intro v163o p163hv p163bhr
            have g163 : (m < bnn s ∧ v163o = bN s m 4) ∨ (bnn s ≤ m ∧ v163o = -1) := (by have e : bN s (m : Int).toNat (4 : Int).toNat = bN s m 4 := rfl; rcases p163hv with y | y <;> omega)
            refine And.intro (by omega) ?_
            refine And.intro ⟨(zx0 rfl), (zP_140 hS (by omega) (by omega))⟩ ⟨_, zW6i (by omega), ?_⟩
            refine And.intro (zA_138 hS) (zrdR (v := some 140) (zR_138_2 hR) ?_)
            refine And.intro (zRb rfl) (zbt rfl ?_)
            refine And.intro ⟨(zx0 rfl), (zP_140 hS (by omega) (by omega))⟩ ⟨_, zW6i (zRL rfl), ?_⟩
            refine ⟨((13 - (m + 1)), 0, 0), zlt6 (by omega), [some (zvr (138)), some (zvr (82)), some (zvr (kc)), some (zvi ((m + 1))), none, none, none], ⟨rfl, rfl, rfl, rfl, rfl⟩, (m + 1), rfl, rfl, rfl, rfl, rfl, (by omega), hm3, (fc_row (f := L1 140) hF1 (by repeat (first | exact (zxe' (by omega)).trans (by first | (rw [fcV_0 (by omega)]; omega) | (rw [fcV_n (by omega)]; omega)) | refine zxcj (by omega) ?_)) (by repeat (first | exact (zxe' (by omega)).trans (by first | (rw [fcV_1 (by omega)]; omega) | (rw [fcV_n (by omega)]; omega)) | refine zxcj (by omega) ?_)) (by repeat (first | exact (zxe' (by omega)).trans (by first | (rw [fcV_2 (by omega)]; omega) | (rw [fcV_n (by omega)]; omega)) | refine zxcj (by omega) ?_)) (by repeat (first | exact (zxe' (by omega)).trans (by first | (rw [fcV_3 (by omega), if_pos (by omega)]; omega) | (rw [fcV_3 (by omega), if_neg (by omega)]) | (rw [fcV_n (by omega)]; omega) | (rw [fcV_n (by omega)])) | refine zxcj (by omega) ?_)) (by repeat (first | exact (zxe' (by omega)).trans (by first | (rw [fcV_4 (by omega)]; omega) | (rw [fcV_n (by omega)]; omega)) | refine zxcj (by omega) ?_)) (by repeat (first | exact (zxe' (by omega)).trans (by first | (rw [fcV_5 (by omega)]) | (rw [fcV_n (by omega)])) | refine zxcj (by omega) ?_)) (fun j9 h9 => (by repeat (first | exact rfl | refine zxcj (by omega) ?_)))), (fun c j h0 => ((fr c j h0).trans rfl)), (fun c j h0 => (zxu h0 (zxu h0 (zxu h0 (zxu h0 (zxu h0 (zxu h0 ((frL c j h0).trans rfl))))))))⟩
          · refine And.intro (zA_82 hS) (zrdR (v := some 90) (zR_82_11 hR) ?_)
            refine And.intro (zA_90 hS) ⟨_, sn_A_atG.up (by decide), ?_⟩
            refine ⟨90, 12, (bnn s), (bN s), (m : Int), (3 : Int), rfl, hS, hR, (zRw_90 hR hS), hRT1, ⟨⟨by omega, by omega⟩, ⟨by decide, by decide⟩⟩, ?_⟩
            intro v138o p138hv p138bhr
            have g138 : (m < bnn s ∧ v138o = bN s m 3) ∨ (bnn s ≤ m ∧ v138o = -1) := (by have e : bN s (m : Int).toNat (3 : Int).toNat = bN s m 3 := rfl; rcases p138hv with y | y <;> omega)
            refine And.intro (by omega) ?_
            refine And.intro ⟨(zx0 rfl), (zP_140 hS (by omega) (by omega))⟩ ⟨_, zW6i (by omega), ?_⟩
            refine And.intro (zA_138 hS) (zrdR (v := some 140) (zR_138_2 hR) ?_)
            refine And.intro (zA_82 hS) (zrdR (v := some 90) (zR_82_11 hR) ?_)
            refine And.intro (zA_90 hS) ⟨_, sn_A_atG.up (by decide), ?_⟩
            refine ⟨90, 12, (bnn s), (bN s), (m : Int), (4 : Int), rfl, hS, hR, (zRw_90 hR hS), hRT1, ⟨⟨by omega, by omega⟩, ⟨by decide, by decide⟩⟩, ?_⟩
            intro v163o p163hv p163bhr
            have g163 : (m < bnn s ∧ v163o = bN s m 4) ∨ (bnn s ≤ m ∧ v163o = -1) := (by have e : bN s (m : Int).toNat (4 : Int).toNat = bN s m 4 := rfl; rcases p163hv with y | y <;> omega)
            refine And.intro (by omega) ?_
            refine And.intro ⟨(zx0 rfl), (zP_140 hS (by omega) (by omega))⟩ ⟨_, zW6i (by omega), ?_⟩
            refine And.intro (zA_138 hS) (zrdR (v := some 140) (zR_138_2 hR) ?_)
            refine And.intro (zRb rfl) (zbt rfl ?_)
            refine And.intro ⟨(zx0 rfl), (zP_140 hS (by omega) (by omega))⟩ ⟨_, zW6i (zRL rfl), ?_⟩
            refine ⟨((13 - (m + 1)), 0, 0), zlt6 (by omega), [some (zvr (138)), some (zvr (82)), some (zvr (kc)), some (zvi ((m + 1))), none, none, none], ⟨rfl, rfl, rfl, rfl, rfl⟩, (m + 1), rfl, rfl, rfl, rfl, rfl, (by omega), hm3, (fc_row (f := L1 140) hF1 (by repeat (first | exact (zxe' (by omega)).trans (by first | (rw [fcV_0 (by omega)]; omega) | (rw [fcV_n (by omega)]; omega)) | refine zxcj (by omega) ?_)) (by repeat (first | exact (zxe' (by omega)).trans (by first | (rw [fcV_1 (by omega)]; omega) | (rw [fcV_n (by omega)]; omega)) | refine zxcj (by omega) ?_)) (by repeat (first | exact (zxe' (by omega)).trans (by first | (rw [fcV_2 (by omega)]; omega) | (rw [fcV_n (by omega)]; omega)) | refine zxcj (by omega) ?_)) (by repeat (first | exact (zxe' (by omega)).trans (by first | (rw [fcV_3 (by omega), if_pos (by omega)]; omega) | (rw [fcV_3 (by omega), if_neg (by omega)]) | (rw [fcV_n (by omega)]; omega) | (rw [fcV_n (by omega)])) | refine zxcj (by omega) ?_)) (by repeat (first | exact (zxe' (by omega)).trans (by first | (rw [fcV_4 (by omega)]; omega) | (rw [fcV_n (by omega)]; omega)) | refine zxcj (by omega) ?_)) (by repeat (first | exact (zxe' (by omega)).trans (by first | (rw [fcV_5 (by omega)]) | (rw [fcV_n (by omega)])) | refine zxcj (by omega) ?_)) (fun j9 h9 => (by repeat (first | exact rfl | refine zxcj (by omega) ?_)))), (fun c j h0 => ((fr c j h0).trans rfl)), (fun c j h0 => (zxu h0 (zxu h0 (zxu h0 (zxu h0 (zxu h0 (zxu h0 ((frL c j h0).trans rfl))))))))⟩
        · exact False.elim (by omega))
def T_Z_fcA : ZT := fun args I L R S Q => ∃ (w : List Int) (D : DtT) (er : Int × Int × Int) (b : Nat) (s : BdS) (kc : Nat) (ww : List CuR) (pc : Nat), args = [zvr 40] ∧ (zSh S) ∧ (zRs R) ∧ (scA w D er I L R) ∧ (zBA b s I L) ∧ (bGd s) ∧ (1 ≤ b ∧ b ≤ 6) ∧ (zDy zT1 zF1 kc R S) ∧ (kc = 106 ∨ kc = 118) ∧ (R 40 12 = some kc) ∧ (I kc 0 = (b : Int) - 1) ∧ (zUa kc ww pc I) ∧ ((cuAA ww pc).length ≤ 40) ∧ ∀ (I' : ZI) (L' : ZI), (I' 40 3 = 0) → (scA w ((D.1.1, 12, fcF s (fun n => cuAc ww pc n), D.1.2.2.2), D.2) er I' L' R) → (∀ c j : Nat, ¬ (c = 40 ∧ j = 3) → ¬ (c = 138 ∧ j = 3) → I' c j = I c j) → (∀ c j : Nat, ¬ c = 140 → L' c j = L c j) → Q (some (zvi (1))) I' L' R S
theorem sn_Z_fcA : ZSnd 5 11 18 T_Z_fcA := ZSnd.of (zT11_18 4) (by
  rintro args I L R S Q hz ⟨w, D, er, b, s, kc, ww, pc, rfl, hS, hR, hA, hBA, hGd, hb6, hDc, hkc, hl, hbn, hUa, hl40, hQ⟩
  obtain ⟨k, k2, hkk, ⟨r15, r16, r0⟩, hE, cl, fn, vv, G, hC, hok, hvv, hRn⟩ := id hA
  obtain ⟨hV, ⟨⟨g8, g8b⟩, gou⟩, ⟨⟨g10, g10b⟩, gdm⟩, ⟨g13, g14, g15⟩⟩ := id hRn
  have g8c : D.2.1.1 ≤ 40 := g8b
  have g10c : D.2.2.1 ≤ 8 := g10b
  have gou : ∀ i, i < D.2.1.1 → zn (L 143 i) = D.2.1.2 i := gou
  have gdm : ∀ i, i < D.2.2.1 → zDm w.length (tC w) (scP (scX w) 0) (D.2.2.2 i) (I 144 i) := gdm
  obtain ⟨hE1, hE2, hE3⟩ := id hE
  have hn4 := hE2.1
  have hk : k = 130 ∨ k = 134 := by omega
  have hk130 : 130 ≤ k := by omega
  have hk134 : k ≤ 134 := by omega
  have hD : zDy zT8 zF8 k R S := by rcases hk with q | q; (rw [q]; exact zDy_130 hR hS); (rw [q]; exact zDy_134 hR hS)
  have hb0 : I 82 0 = (b : Int) - 1 := hBA.1.1
  refine And.intro rfl ?_
  refine And.intro (zA_40 hS) (zrdR (v := some 82) (zR_40_9 hR) ?_)
  refine And.intro (zA_82 hS) (zrd (v := (b - 1)) hb0 ?_)
  refine And.intro ⟨(by omega), (zRb rfl)⟩ ⟨fun h8 => ?_, (fun h8 => False.elim (by omega))⟩
  refine And.intro (zA_40 hS) (zrdR (v := some 138) (zR_40_17 hR) ?_)
  refine And.intro (zA_40 hS) (zrdR (v := some 82) (zR_40_9 hR) ?_)
  refine And.intro (zA_40 hS) (zrdR (v := some kc) hl ?_)
  refine And.intro (zA_138 hS) ⟨_, sn_E_tkfA.up (by decide), ?_⟩
  refine ⟨b, s, kc, ww, pc, rfl, hS, hR, hBA, hGd, hb6, hDc, (by first | exact hkc | (clear hQ; grind [xu])), hbn, hUa, hl40, ?_⟩
  intro I30o L30o p30h3 p30bhF p30bbfr p30bbbfrL
  refine And.intro (zA_40 hS) (Exists.intro _ (And.intro (zinl_ok (zT11_22 3)) (And.intro rfl ?_)))
  refine And.intro (zA_40 hS) (Exists.intro _ (And.intro (zinl_ok (zT11_1 2)) (And.intro rfl ?_)))
  refine And.intro (zRb rfl) (zbt rfl ?_)
  refine And.intro (zA_40 hS) ⟨_, (zWi (zRb rfl)), ?_⟩
  refine And.intro (zRb rfl) (zbt rfl ?_)
  refine And.intro ⟨(zRb rfl), (zRb rfl)⟩ (zbf rfl ?_)
  refine And.intro (Or.inr rfl) ?_
  refine And.intro (Or.inr rfl) ?_
  refine hQ _ _ zxe ⟨k, k2, hkk, ⟨r15, r16, r0⟩, zEt_fr hE (fun c j h => (zxcj (by omega) ((p30bbfr c j (by omega)).trans rfl))), cl, fn, vv, G, zCl_fr hC (fun c j h => (zxcj (by omega) ((p30bbfr c j (by omega)).trans rfl))), hok, hvv, scA_fc hRn (show _ = (12 : Int) from p30h3) p30bhF (fun c j h1 => (zxcj (by omega) ((p30bbfr c j (by omega)).trans rfl))) (fun c j h1 => ((p30bbbfrL c j (by omega)).trans rfl))⟩ (fun c j h0 h1 => (zxcj h0 ((p30bbfr c j h1).trans rfl))) (fun c j h0 => ((p30bbbfrL c j h0).trans rfl)))
def T_Z_fcB : ZT := fun args I L R S Q => ∃ (w : List Int) (D : DtT) (er : Int × Int × Int) (b : Nat) (s : BdS) (kc : Nat) (ww : List CuR) (pc : Nat), args = [zvr 40] ∧ (zSh S) ∧ (zRs R) ∧ (scA w D er I L R) ∧ (zBA b s I L) ∧ (bGd s) ∧ (1 ≤ b ∧ b ≤ 6) ∧ (zDy zT1 zF1 kc R S) ∧ (kc = 106 ∨ kc = 118) ∧ (R 40 12 = some kc) ∧ (¬ I kc 0 = (b : Int) - 1) ∧ ∀ (I' : ZI) (L' : ZI), (I' 40 3 = 0) → (scA w ((D.1.1, 12, fcF s (fun n => -1), D.1.2.2.2), D.2) er I' L' R) → (∀ c j : Nat, ¬ (c = 40 ∧ j = 3) → ¬ (c = 138 ∧ j = 3) → I' c j = I c j) → (∀ c j : Nat, ¬ c = 140 → L' c j = L c j) → Q (some (zvi (1))) I' L' R S
theorem sn_Z_fcB : ZSnd 5 11 18 T_Z_fcB := ZSnd.of (zT11_18 4) (by
  rintro args I L R S Q hz ⟨w, D, er, b, s, kc, ww, pc, rfl, hS, hR, hA, hBA, hGd, hb6, hDc, hkc, hl, hbn, hQ⟩
  obtain ⟨k, k2, hkk, ⟨r15, r16, r0⟩, hE, cl, fn, vv, G, hC, hok, hvv, hRn⟩ := id hA
  obtain ⟨hV, ⟨⟨g8, g8b⟩, gou⟩, ⟨⟨g10, g10b⟩, gdm⟩, ⟨g13, g14, g15⟩⟩ := id hRn
  have g8c : D.2.1.1 ≤ 40 := g8b
  have g10c : D.2.2.1 ≤ 8 := g10b
  have gou : ∀ i, i < D.2.1.1 → zn (L 143 i) = D.2.1.2 i := gou
  have gdm : ∀ i, i < D.2.2.1 → zDm w.length (tC w) (scP (scX w) 0) (D.2.2.2 i) (I 144 i) := gdm
  obtain ⟨hE1, hE2, hE3⟩ := id hE
  have hn4 := hE2.1
  have hk : k = 130 ∨ k = 134 := by omega
  have hk130 : 130 ≤ k := by omega
  have hk134 : k ≤ 134 := by omega
  have hD : zDy zT8 zF8 k R S := by rcases hk with q | q; (rw [q]; exact zDy_130 hR hS); (rw [q]; exact zDy_134 hR hS)
  have hb0 : I 82 0 = (b : Int) - 1 := hBA.1.1
  refine And.intro rfl ?_
  refine And.intro (zA_40 hS) (zrdR (v := some 82) (zR_40_9 hR) ?_)
  refine And.intro (zA_82 hS) (zrd (v := (b - 1)) hb0 ?_)
  refine And.intro ⟨(by omega), (zRb rfl)⟩ ⟨fun h8 => ?_, (fun h8 => False.elim (by omega))⟩
  refine And.intro (zA_40 hS) (zrdR (v := some 138) (zR_40_17 hR) ?_)
  refine And.intro (zA_40 hS) (zrdR (v := some 82) (zR_40_9 hR) ?_)
  refine And.intro (zA_40 hS) (zrdR (v := some kc) hl ?_)
  refine And.intro (zA_138 hS) ⟨_, sn_E_tkfB.up (by decide), ?_⟩
  refine ⟨b, s, kc, ww, pc, rfl, hS, hR, hBA, hGd, hb6, hDc, (by first | exact hkc | (clear hQ; grind [xu])), hbn, ?_⟩
  intro I30o L30o p30h3 p30bhF p30bbfr p30bbbfrL
  refine And.intro (zA_40 hS) (Exists.intro _ (And.intro (zinl_ok (zT11_22 3)) (And.intro rfl ?_)))
  refine And.intro (zA_40 hS) (Exists.intro _ (And.intro (zinl_ok (zT11_1 2)) (And.intro rfl ?_)))
  refine And.intro (zRb rfl) (zbt rfl ?_)
  refine And.intro (zA_40 hS) ⟨_, (zWi (zRb rfl)), ?_⟩
  refine And.intro (zRb rfl) (zbt rfl ?_)
  refine And.intro ⟨(zRb rfl), (zRb rfl)⟩ (zbf rfl ?_)
  refine And.intro (Or.inr rfl) ?_
  refine And.intro (Or.inr rfl) ?_
  refine hQ _ _ zxe ⟨k, k2, hkk, ⟨r15, r16, r0⟩, zEt_fr hE (fun c j h => (zxcj (by omega) ((p30bbfr c j (by omega)).trans rfl))), cl, fn, vv, G, zCl_fr hC (fun c j h => (zxcj (by omega) ((p30bbfr c j (by omega)).trans rfl))), hok, hvv, scA_fc hRn (show _ = (12 : Int) from p30h3) p30bhF (fun c j h1 => (zxcj (by omega) ((p30bbfr c j (by omega)).trans rfl))) (fun c j h1 => ((p30bbbfrL c j (by omega)).trans rfl))⟩ (fun c j h0 h1 => (zxcj h0 ((p30bbfr c j h1).trans rfl))) (fun c j h0 => ((p30bbbfrL c j h0).trans rfl)))
def T_Z_fc0 : ZT := fun args I L R S Q => args = [zvr 40] ∧ (zSh S) ∧ (zRs R) ∧ (I 82 0 = -1) ∧ ∀ (I' : ZI), (I' 40 3 = 3) → (∀ c j : Nat, ¬ (c = 40 ∧ j = 3) → I' c j = I c j) → Q (some (zvi (0))) I' L R S
theorem sn_Z_fc0 : ZSnd 5 11 18 T_Z_fc0 := ZSnd.of (zT11_18 4) (by
  rintro args I L R S Q hz ⟨rfl, hS, hR, hb0, hQ⟩
  refine And.intro rfl ?_
  refine And.intro (zA_40 hS) (zrdR (v := some 82) (zR_40_9 hR) ?_)
  refine And.intro (zA_82 hS) (zrd (v := (-1)) hb0 ?_)
  refine And.intro ⟨(zRb rfl), (zRb rfl)⟩ (zbf rfl ?_)
  refine And.intro (zA_40 hS) (Exists.intro _ (And.intro (zinl_ok (zT11_22 3)) (And.intro rfl ?_)))
  refine And.intro (zA_40 hS) (Exists.intro _ (And.intro (zinl_ok (zT11_1 2)) (And.intro rfl ?_)))
  refine And.intro (zRb rfl) (zbf rfl ?_)
  refine And.intro (zA_40 hS) ⟨_, (zWi (zRb rfl)), ?_⟩
  refine And.intro (zRb rfl) (zbf rfl ?_)
  refine And.intro ⟨(zRb rfl), (zRb rfl)⟩ (zbt rfl ?_)
  refine And.intro (Or.inl rfl) ?_
  refine And.intro (Or.inl rfl) ?_
  refine hQ _ zxe (fun c j h0 => (zxcj h0 rfl)))
