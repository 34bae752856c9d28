/-! wc -/
def T_O_nmb : ZT := fun args I L R S Q => ∃ (k : Nat) (w : List Int) (v : Int) (l : Int) (l_ : Nat), args = [zvr k, zvl v, zvi l] ∧ (zSh S) ∧ (zRs R) ∧ (zDy zT2 zF2 k R S) ∧ (43 ≤ k ∧ k ≤ 52) ∧ (zPG k w I) ∧ (-1000000000 ≤ v ∧ v ≤ 1000000000) ∧ (l = l_ ∧ l_ ≤ 1) ∧ (l_ = 0 → -9999 ≤ v ∧ v ≤ 9999) ∧ ∀ (I' : ZI), (zPG k (w ++ wNb v l_) I') → (∀ c j : Nat, ¬ (c = k ∧ j = 12) → ¬ c = k + 8 → I' c j = I c j) → Q none I' L R S
theorem sn_O_nmb : ZSnd 3 2 5 T_O_nmb := ZSnd.of (zT2_5 2) (by
  rintro args I L R S Q hz ⟨k, w, v, l, l_, rfl, hS, hR, hD, hk, hP, hv, hl, hlv, hQ⟩
  refine And.intro rfl ?_
  refine ⟨_, _, ⟨zW6i (by omega), zW6i (zRL rfl)⟩, fun z2 c2 => ?_⟩
  refine And.intro c2.2.2 ⟨fun h3 => ?_, fun h3 => ?_⟩
  · refine And.intro (by omega) (fun v13 e13 => ?_)
    refine And.intro (by omega) ⟨fun h19 => ?_, fun h19 => ?_⟩
    · refine And.intro (zDX hD 0 rfl) ⟨_, sn_O_whl.up (by decide), ?_⟩
      refine ⟨_, _, (v13 : Int), rfl, hS, hR, hD, (by omega), (by first | exact p9hP2 | exact hP), (by omega), ?_⟩
      intro I48o p48hP2 p48bfr
      refine hQ _ ?_ (fun c j h0 h1 => ((p48bfr c j h0 h1).trans rfl))
      · first
        | (rw [wNb_n (by omega), if_pos (by omega), ← List.append_assoc, ← List.append_assoc, show -v / 1000000 = q28 by omega, show -v % 1000000 = q38 by omega]
           exact p39hP2)
        | (rw [wNb_n (by omega), if_neg (by omega), ← List.append_assoc, show -v = v13 by omega]
           exact p48hP2)
        | (rw [wNb_p (by omega), if_pos (by omega), ← List.append_assoc, show v / 1000000 = q28 by omega, show v % 1000000 = q38 by omega]
           exact p39hP2)
        | (rw [wNb_p (by omega), if_neg (by omega)]
           have e : v13 = v := by omega
           rw [e] at p48hP2
           exact p48hP2)
    · refine ⟨_, _, ⟨(zW6i (by omega)), (zW6i (zRL rfl)), (by decide)⟩, (zdv (by omega) (fun q28 e28 => ?_))⟩
      refine And.intro (zDX hD 0 rfl) ⟨_, sn_O_whl.up (by decide), ?_⟩
      refine ⟨_, _, (q28 : Int), rfl, hS, hR, hD, (by omega), (by first | exact p9hP2 | exact hP), (by omega), ?_⟩
      intro I29o p29hP2 p29bfr
      refine ⟨_, _, ⟨(zW6i (by omega)), (zW6i (zRL rfl)), (by decide)⟩, (zdv (by omega) (fun q38 e38 => ?_))⟩
      refine And.intro (zDX hD 0 rfl) ⟨_, sn_O_frc.up (by decide), ?_⟩
      refine ⟨_, _, (q38 : Int), rfl, hS, hR, hD, (by omega), p29hP2, (by omega), ?_⟩
      intro I39o p39hP2 p39bfr
      refine hQ _ ?_ (fun c j h0 h1 => ((p39bfr c j h0 h1).trans ((p29bfr c j h0 h1).trans rfl)))
      · first
        | (rw [wNb_n (by omega), if_pos (by omega), ← List.append_assoc, ← List.append_assoc, show -v / 1000000 = q28 by omega, show -v % 1000000 = q38 by omega]
           exact p39hP2)
        | (rw [wNb_n (by omega), if_neg (by omega), ← List.append_assoc, show -v = v13 by omega]
           exact p48hP2)
        | (rw [wNb_p (by omega), if_pos (by omega), ← List.append_assoc, show v / 1000000 = q28 by omega, show v % 1000000 = q38 by omega]
           exact p39hP2)
        | (rw [wNb_p (by omega), if_neg (by omega)]
           have e : v13 = v := by omega
           rw [e] at p48hP2
           exact p48hP2)
  · refine And.intro (zDX hD 0 rfl) ⟨_, sn_O_emt.up (by decide), ?_⟩
    refine ⟨k, w, (45 : Int), rfl, hS, hR, hD, (by omega), (by first | exact (zPG_fr hP (fun c j h => rfl)) | (clear hQ; grind [xu])), (by omega), ?_⟩
    intro I9o p9hP2 p9bfr
    refine And.intro (by omega) (fun v13 e13 => ?_)
    refine And.intro (by omega) ⟨fun h19 => ?_, fun h19 => ?_⟩
    · refine And.intro (zDX hD 0 rfl) ⟨_, sn_O_whl.up (by decide), ?_⟩
      refine ⟨_, _, (v13 : Int), rfl, hS, hR, hD, (by omega), (by first | exact p9hP2 | exact hP), (by omega), ?_⟩
      intro I48o p48hP2 p48bfr
      refine hQ _ ?_ (fun c j h0 h1 => ((p48bfr c j h0 h1).trans ((p9bfr c j h0 h1).trans rfl)))
      · first
        | (rw [wNb_n (by omega), if_pos (by omega), ← List.append_assoc, ← List.append_assoc, show -v / 1000000 = q28 by omega, show -v % 1000000 = q38 by omega]
           exact p39hP2)
        | (rw [wNb_n (by omega), if_neg (by omega), ← List.append_assoc, show -v = v13 by omega]
           exact p48hP2)
        | (rw [wNb_p (by omega), if_pos (by omega), ← List.append_assoc, show v / 1000000 = q28 by omega, show v % 1000000 = q38 by omega]
           exact p39hP2)
        | (rw [wNb_p (by omega), if_neg (by omega)]
           have e : v13 = v := by omega
           rw [e] at p48hP2
           exact p48hP2)
    · refine ⟨_, _, ⟨(zW6i (by omega)), (zW6i (zRL rfl)), (by decide)⟩, (zdv (by omega) (fun q28 e28 => ?_))⟩
      refine And.intro (zDX hD 0 rfl) ⟨_, sn_O_whl.up (by decide), ?_⟩
      refine ⟨_, _, (q28 : Int), rfl, hS, hR, hD, (by omega), (by first | exact p9hP2 | exact hP), (by omega), ?_⟩
      intro I29o p29hP2 p29bfr
      refine ⟨_, _, ⟨(zW6i (by omega)), (zW6i (zRL rfl)), (by decide)⟩, (zdv (by omega) (fun q38 e38 => ?_))⟩
      refine And.intro (zDX hD 0 rfl) ⟨_, sn_O_frc.up (by decide), ?_⟩
      refine ⟨_, _, (q38 : Int), rfl, hS, hR, hD, (by omega), p29hP2, (by omega), ?_⟩
      intro I39o p39hP2 p39bfr
      refine hQ _ ?_ (fun c j h0 h1 => ((p39bfr c j h0 h1).trans ((p29bfr c j h0 h1).trans ((p9bfr c j h0 h1).trans rfl))))
      · first
        | (rw [wNb_n (by omega), if_pos (by omega), ← List.append_assoc, ← List.append_assoc, show -v / 1000000 = q28 by omega, show -v % 1000000 = q38 by omega]
           exact p39hP2)
        | (rw [wNb_n (by omega), if_neg (by omega), ← List.append_assoc, show -v = v13 by omega]
           exact p48hP2)
        | (rw [wNb_p (by omega), if_pos (by omega), ← List.append_assoc, show v / 1000000 = q28 by omega, show v % 1000000 = q38 by omega]
           exact p39hP2)
        | (rw [wNb_p (by omega), if_neg (by omega)]
           have e : v13 = v := by omega
           rw [e] at p48hP2
           exact p48hP2))
def T_O_obj : ZT := fun args I L R S Q => ∃ (k : Nat) (w : List Int) (O : OoS) (j : Int) (j_ : Nat) (a_ : Nat), args = [zvr k, zvi j] ∧ (zSh S) ∧ (zRs R) ∧ (zDy zT2 zF2 k R S) ∧ (43 ≤ k ∧ k ≤ 52) ∧ (zPG k w I) ∧ (zOB k O I L) ∧ (oGd O) ∧ (oNg O) ∧ (j = j_ ∧ j_ < ocn O) ∧ (okd O j_ = a_) ∧ (a_ ≤ 8) ∧ ∀ (I' : ZI), (zPG k (w ++ wOb O j_ a_) I') → (∀ c j : Nat, ¬ (c = k ∧ j = 12) → ¬ c = k + 8 → I' c j = I c j) → Q none I' L R S
theorem sn_O_obj : ZSnd 4 2 6 T_O_obj := ZSnd.loops (zT2_6 3) (by
  rintro args I L R S Q hz ⟨k, w, O, j, j_, a_, rfl, hS, hR, hD, hk, hP, hO, hG, hN, hj, ha, ha8, hQ⟩
  obtain ⟨g1, g2, g3, g4, g5⟩ := id hG
  obtain ⟨o1, o2, o3, o4⟩ := id hO
  have hkd := (o2 j_ (by omega)).1
  have hfn5 := (tFn_b a_ (by omega)).1
  have hfl : ((tsb (10 + a_)).length : Int) = tFn a_ := by unfold tFn; rw [if_pos (by omega)]
  refine ⟨[31], fun nM tM lsM stM I1 L1 R1 S1 => match tM with
      | 31 => ∃ (i : Nat) (wd : Nat) (nd : Nat) (u : Nat), nM = ((6 - i), 0, 0) ∧ lsM = [some (zvr (k)), some (zvi (j_)), some (zvr (u)), some (zvi (wd)), some (zvi (nd)), some (zvi (i)), none] ∧ stM = [] ∧ L1 = L ∧ R1 = R ∧ S1 = S ∧ (i ≤ tFn a_) ∧ (i ≤ 5) ∧ (u = 20 + a_) ∧ (wd = oCi a_ 1 i) ∧ (nd = oCi a_ 0 i) ∧ (wd ≤ 2 ∧ nd ≤ 5) ∧ (zPG k (w ++ wWd a_ (tsb a_).length ++ wFs O j_ a_ i) I1) ∧ (∀ c j : Nat, ¬ (c = k ∧ j = 12) → ¬ c = k + 8 → I1 c j = I c j)
      | _ => False, rfl, ?_, ⟨?_, True.intro⟩⟩
  · refine And.intro (zDX hD 0 rfl) (zrdR (v := some (k + 1)) (zDR hD 0 rfl) ?_)
    refine And.intro (zDP hD 1 rfl rfl (by omega) (by omega)) (fun v6 e6 r6 => ?_)
    have f6 : v6 = a_ := (e6.trans ((congrArg (I (k + 1)) (by omega)).trans (hkd.trans ha)))
    refine ⟨_, sn_O_wrd.up (by decide), ?_⟩
    refine ⟨(v6 : Int), a_, rfl, (by omega), ?_⟩
    intro u7o p7hu
    refine And.intro (zDX hD 0 rfl) ⟨_, sn_O_wrw.up (by decide), ?_⟩
    refine ⟨k, w, a_, _, rfl, hS, hR, hD, (by omega), (by first | exact (zPG_fr hP (fun c j h => rfl)) | (clear hQ; grind [xu])), (by omega), ?_⟩
    intro I10o p10hP2 p10bfr
    refine And.intro (zDX hD 0 rfl) (zrdR (v := some (k + 1)) (zDR hD 0 rfl) ?_)
    refine And.intro (zDP hD 1 rfl rfl (by omega) (by omega)) (fun v18 e18 r18 => ?_)
    have f18 : v18 = a_ := (e18.trans ((p10bfr (k + 1) _ (by omega) (by omega)).trans ((congrArg (I (k + 1)) (by omega)).trans (hkd.trans ha))))
    refine ⟨_, sn_O_fds.up (by decide), ?_⟩
    refine ⟨(v18 : Int), a_, rfl, (by omega), ?_⟩
    intro u19o p19hu
    have g19 : u19o = 20 + a_ := (by omega)
    refine ⟨((6 - (0 : Nat)), 0, 0), [some (zvr (k)), some (zvi (j_)), some (zvr (u19o)), some (zvi ((0 : Nat))), some (zvi ((0 : Nat))), some (zvi ((0 : Nat))), none], ⟨rfl, (congrArg (fun z => some (zvi z)) (by omega)), rfl, rfl, rfl, rfl, rfl⟩, 0, 0, 0, u19o, rfl, rfl, rfl, rfl, rfl, rfl, (by omega), (by omega), (by omega), rfl, rfl, (by omega), (by show zPG k (w ++ wWd a_ (tsb a_).length ++ []) _; rw [List.append_nil]; exact p10hP2), (fun c j h0 h1 => ((p10bfr c j h0 h1).trans rfl))⟩
  · rintro nM lsM stM I1 L1 R1 S1 hz1 ⟨i, wd, nd, u, rfl, rfl, rfl, rfl, rfl, rfl, hi, hi5, hu, hwd, hnd, hb, hP1, fr⟩
    have hu2 : u - 10 = 10 + a_ := by omega
    have hul : ((tsb (u - 10)).length : Int) = tFn a_ := by rw [hu2]; exact hfl
    have hcu : (((tsb (u - 10)).getD (i : Int).toNat 0 : Nat) : Int) = tFc a_ i := by rw [hu2]; rfl
    have os := fun (_ : Unit) (h : i < tFn a_) => tNc_s a_ (by omega) i (by omega)
    have o86 := fun (_ : Unit) (h : i < tFn a_) => tFc_86 a_ (by omega) i (by omega)
    have olo := fun (_ : Unit) (h : i < tFn a_) => tLo_b a_ (by omega) i (by omega)
    refine And.intro ⟨by omega, by omega⟩ ?_
    have c34 := tsb_l (u - 10)
    refine And.intro ⟨(by omega), (by omega)⟩ ⟨fun h37 => ?_, fun h37 => ?_⟩
    · refine hQ _ ?_ (fun c j h0 h1 => ((fr c j h0 h1).trans rfl))
      · have e : i = tFn a_ := by omega
        unfold wOb
        rw [← List.append_assoc, ← e]
        exact hP1
    · refine And.intro (zDX hD 0 rfl) ⟨_, sn_O_emt.up (by decide), ?_⟩
      refine ⟨k, (w ++ wWd a_ (tsb a_).length ++ wFs O j_ a_ i), (32 : Int), rfl, hS, hR, hD, (by omega), hP1, (by omega), ?_⟩
      intro I43o p43hP2 p43bfr
      refine And.intro ⟨⟨by omega, by omega⟩, by omega, by omega⟩ ?_
      have c49 := tsb_b (u - 10) (i : Int).toNat
      refine And.intro ⟨(by omega), (zRb rfl)⟩ ⟨fun h58 => ?_, fun h58 => ?_⟩
      · have t58 : tFc a_ i ≠ 86 := (by omega)
        refine And.intro ⟨(by omega), (zRb rfl)⟩ ⟨fun h74 => ?_, fun h74 => ?_⟩
        · have t74 : tFc a_ i ≠ 84 := (by omega)
          refine And.intro (zDX hD 0 rfl) ⟨_, sn_O_num.up (by decide), ?_⟩
          refine ⟨k, O, (j_ : Int), j_, (nd : Int), nd, rfl, hS, hR, hD, (by first | exact (zOB_fr hO (fun c j h => ((p43bfr c j (by omega) (by omega)).trans ((fr c j (by omega) (by omega)).trans rfl))) (fun c j h => rfl)) | (clear hQ; grind [xu])), (by first | exact hG | (clear hQ; grind [xu])), (by omega), ⟨by omega, by have z := os () (by omega); have z2 := o86 () (by omega); have z3 : tNc a_ i = oCi a_ 0 i := if_neg (by omega); omega⟩, ?_⟩
          intro v94o p94hv p94bhv2
          refine And.intro ⟨(by omega), (zRb rfl)⟩ ⟨fun h101 => ?_, fun h101 => ?_⟩
          · refine And.intro (zDX hD 0 rfl) ⟨_, sn_O_nmb.up (by decide), ?_⟩
            refine ⟨k, ((w ++ wWd a_ (tsb a_).length ++ wFs O j_ a_ i) ++ [32]), (v94o : Int), (0 : Int), 0, rfl, hS, hR, hD, (by omega), p43hP2, p94bhv2, (by omega), (fun e => by have z := olo () (by omega); have z3 := hN j_ a_ i (by omega) ha ha8 (by omega) (by omega) (by omega); rw [← hnd, ← p94hv] at z3; omega), ?_⟩
            intro I109o p109hP2 p109bfr
            refine ⟨((6 - (i + 1)), 0, 0), zlt6 (by omega), [some (zvr (k)), some (zvi (j_)), some (zvr (u)), some (zvi (wd)), some (zvi ((nd + 1))), some (zvi ((i + 1))), none], ⟨rfl, rfl, rfl, rfl, rfl, rfl, rfl⟩, (i + 1), wd, (nd + 1), u, rfl, rfl, rfl, rfl, rfl, rfl, (by omega), (by omega), (by omega), (by have z := os () (by omega); have z2 := o86 () (by omega); first | omega | (have e0 : a_ = 0 := (by omega); subst e0; rw [oCi_0 1 (by omega) (i + 1) (by omega)]; rw [oCi_0 1 (by omega) i (by omega)] at hwd; omega)), (by have z := os () (by omega); have z2 := o86 () (by omega); first | (have z3 : tNc a_ i = oCi a_ 0 i := if_neg (by omega); have z4 : tNc a_ (i + 1) = oCi a_ 0 (i + 1) := if_neg (by omega); omega) | (have e0 : a_ = 0 := (by omega); subst e0; rw [oCi_0 0 (by omega) (i + 1) (by omega)]; rw [oCi_0 0 (by omega) i (by omega)] at hnd; omega)), (by have z := os () (by omega); have z2 := o86 () (by omega); first | omega | (have z3 : tNc a_ i = oCi a_ 0 i := if_neg (by omega); omega)), ?_, (fun c j h0 h1 => ((p109bfr c j h0 h1).trans ((p43bfr c j h0 h1).trans ((fr c j h0 h1).trans rfl))))⟩
            · show zPG k (w ++ wWd a_ (tsb a_).length ++ (wFs O j_ a_ i ++ ([32] ++ wF1 O j_ a_ i))) _
              rw [← List.append_assoc, ← List.append_assoc]
              unfold wF1
              first
              | (rw [if_pos (by omega)]
                 exact p64hP2)
              | (rw [if_neg (by omega), if_pos (by omega), ← hwd]
                 exact p80hP2)
              | (have z3 : tNc a_ i = oCi a_ 0 i := if_neg (by have z2 := o86 () (by omega); omega)
                 rw [if_neg (by omega), if_neg (by omega), z3, ← hnd, ← p94hv]
                 have e1 : tLen (tFc a_ i) = (if tFc a_ i = 78 then 1 else 0) := rfl
                 first
                 | (rw [e1, if_pos (by omega)]
                    exact p109hP2)
                 | (rw [e1, if_neg (by omega)]
                    exact p109hP2))
          · refine And.intro (zDX hD 0 rfl) ⟨_, sn_O_nmb.up (by decide), ?_⟩
            refine ⟨k, ((w ++ wWd a_ (tsb a_).length ++ wFs O j_ a_ i) ++ [32]), (v94o : Int), (1 : Int), 1, rfl, hS, hR, hD, (by omega), p43hP2, p94bhv2, (by omega), (fun e => by have z := olo () (by omega); have z3 := hN j_ a_ i (by omega) ha ha8 (by omega) (by omega) (by omega); rw [← hnd, ← p94hv] at z3; omega), ?_⟩
            intro I109o p109hP2 p109bfr
            refine ⟨((6 - (i + 1)), 0, 0), zlt6 (by omega), [some (zvr (k)), some (zvi (j_)), some (zvr (u)), some (zvi (wd)), some (zvi ((nd + 1))), some (zvi ((i + 1))), none], ⟨rfl, rfl, rfl, rfl, rfl, rfl, rfl⟩, (i + 1), wd, (nd + 1), u, rfl, rfl, rfl, rfl, rfl, rfl, (by omega), (by omega), (by omega), (by have z := os () (by omega); have z2 := o86 () (by omega); first | omega | (have e0 : a_ = 0 := (by omega); subst e0; rw [oCi_0 1 (by omega) (i + 1) (by omega)]; rw [oCi_0 1 (by omega) i (by omega)] at hwd; omega)), (by have z := os () (by omega); have z2 := o86 () (by omega); first | (have z3 : tNc a_ i = oCi a_ 0 i := if_neg (by omega); have z4 : tNc a_ (i + 1) = oCi a_ 0 (i + 1) := if_neg (by omega); omega) | (have e0 : a_ = 0 := (by omega); subst e0; rw [oCi_0 0 (by omega) (i + 1) (by omega)]; rw [oCi_0 0 (by omega) i (by omega)] at hnd; omega)), (by have z := os () (by omega); have z2 := o86 () (by omega); first | omega | (have z3 : tNc a_ i = oCi a_ 0 i := if_neg (by omega); omega)), ?_, (fun c j h0 h1 => ((p109bfr c j h0 h1).trans ((p43bfr c j h0 h1).trans ((fr c j h0 h1).trans rfl))))⟩
            · show zPG k (w ++ wWd a_ (tsb a_).length ++ (wFs O j_ a_ i ++ ([32] ++ wF1 O j_ a_ i))) _
              rw [← List.append_assoc, ← List.append_assoc]
              unfold wF1
              first
              | (rw [if_pos (by omega)]
                 exact p64hP2)
              | (rw [if_neg (by omega), if_pos (by omega), ← hwd]
                 exact p80hP2)
              | (have z3 : tNc a_ i = oCi a_ 0 i := if_neg (by have z2 := o86 () (by omega); omega)
                 rw [if_neg (by omega), if_neg (by omega), z3, ← hnd, ← p94hv]
                 have e1 : tLen (tFc a_ i) = (if tFc a_ i = 78 then 1 else 0) := rfl
                 first
                 | (rw [e1, if_pos (by omega)]
                    exact p109hP2)
                 | (rw [e1, if_neg (by omega)]
                    exact p109hP2))
        · have t74 : tFc a_ i = 84 := (by omega)
          refine And.intro (zDX hD 0 rfl) ⟨_, sn_O_qte.up (by decide), ?_⟩
          refine ⟨k, ((w ++ wWd a_ (tsb a_).length ++ wFs O j_ a_ i) ++ [32]), O, (j_ : Int), j_, (wd : Int), wd, rfl, hS, hR, hD, (by omega), p43hP2, (by first | exact (zOB_fr hO (fun c j h => ((p43bfr c j (by omega) (by omega)).trans ((fr c j (by omega) (by omega)).trans rfl))) (fun c j h => rfl)) | (clear hQ; grind [xu])), (by first | exact hG | (clear hQ; grind [xu])), (by omega), ⟨by omega, by have z := os () (by omega); omega⟩, ?_⟩
          intro I80o p80hP2 p80bfr
          refine ⟨((6 - (i + 1)), 0, 0), zlt6 (by omega), [some (zvr (k)), some (zvi (j_)), some (zvr (u)), some (zvi ((wd + 1))), some (zvi (nd)), some (zvi ((i + 1))), none], ⟨rfl, rfl, rfl, rfl, rfl, rfl, rfl⟩, (i + 1), (wd + 1), nd, u, rfl, rfl, rfl, rfl, rfl, rfl, (by omega), (by omega), (by omega), (by have z := os () (by omega); have z2 := o86 () (by omega); first | omega | (have e0 : a_ = 0 := (by omega); subst e0; rw [oCi_0 1 (by omega) (i + 1) (by omega)]; rw [oCi_0 1 (by omega) i (by omega)] at hwd; omega)), (by have z := os () (by omega); have z2 := o86 () (by omega); first | (have z3 : tNc a_ i = oCi a_ 0 i := if_neg (by omega); have z4 : tNc a_ (i + 1) = oCi a_ 0 (i + 1) := if_neg (by omega); omega) | (have e0 : a_ = 0 := (by omega); subst e0; rw [oCi_0 0 (by omega) (i + 1) (by omega)]; rw [oCi_0 0 (by omega) i (by omega)] at hnd; omega)), (by have z := os () (by omega); have z2 := o86 () (by omega); first | omega | (have z3 : tNc a_ i = oCi a_ 0 i := if_neg (by omega); omega)), ?_, (fun c j h0 h1 => ((p80bfr c j h0 h1).trans ((p43bfr c j h0 h1).trans ((fr c j h0 h1).trans rfl))))⟩
          · show zPG k (w ++ wWd a_ (tsb a_).length ++ (wFs O j_ a_ i ++ ([32] ++ wF1 O j_ a_ i))) _
            rw [← List.append_assoc, ← List.append_assoc]
            unfold wF1
            first
            | (rw [if_pos (by omega)]
               exact p64hP2)
            | (rw [if_neg (by omega), if_pos (by omega), ← hwd]
               exact p80hP2)
            | (have z3 : tNc a_ i = oCi a_ 0 i := if_neg (by have z2 := o86 () (by omega); omega)
               rw [if_neg (by omega), if_neg (by omega), z3, ← hnd, ← p94hv]
               have e1 : tLen (tFc a_ i) = (if tFc a_ i = 78 then 1 else 0) := rfl
               first
               | (rw [e1, if_pos (by omega)]
                  exact p109hP2)
               | (rw [e1, if_neg (by omega)]
                  exact p109hP2))
      · have t58 : tFc a_ i = 86 := (by omega)
        refine And.intro (zDX hD 0 rfl) ⟨_, sn_O_emt.up (by decide), ?_⟩
        refine ⟨k, ((w ++ wWd a_ (tsb a_).length ++ wFs O j_ a_ i) ++ [32]), (51 : Int), rfl, hS, hR, hD, (by omega), p43hP2, (by omega), ?_⟩
        intro I64o p64hP2 p64bfr
        refine ⟨((6 - (i + 1)), 0, 0), zlt6 (by omega), [some (zvr (k)), some (zvi (j_)), some (zvr (u)), some (zvi (wd)), some (zvi (nd)), some (zvi ((i + 1))), none], ⟨rfl, rfl, rfl, rfl, rfl, rfl, rfl⟩, (i + 1), wd, nd, u, rfl, rfl, rfl, rfl, rfl, rfl, (by omega), (by omega), (by omega), (by have z := os () (by omega); have z2 := o86 () (by omega); first | omega | (have e0 : a_ = 0 := (by omega); subst e0; rw [oCi_0 1 (by omega) (i + 1) (by omega)]; rw [oCi_0 1 (by omega) i (by omega)] at hwd; omega)), (by have z := os () (by omega); have z2 := o86 () (by omega); first | (have z3 : tNc a_ i = oCi a_ 0 i := if_neg (by omega); have z4 : tNc a_ (i + 1) = oCi a_ 0 (i + 1) := if_neg (by omega); omega) | (have e0 : a_ = 0 := (by omega); subst e0; rw [oCi_0 0 (by omega) (i + 1) (by omega)]; rw [oCi_0 0 (by omega) i (by omega)] at hnd; omega)), (by have z := os () (by omega); have z2 := o86 () (by omega); first | omega | (have z3 : tNc a_ i = oCi a_ 0 i := if_neg (by omega); omega)), ?_, (fun c j h0 h1 => ((p64bfr c j h0 h1).trans ((p43bfr c j h0 h1).trans ((fr c j h0 h1).trans rfl))))⟩
        · show zPG k (w ++ wWd a_ (tsb a_).length ++ (wFs O j_ a_ i ++ ([32] ++ wF1 O j_ a_ i))) _
          rw [← List.append_assoc, ← List.append_assoc]
          unfold wF1
          first
          | (rw [if_pos (by omega)]
             exact p64hP2)
          | (rw [if_neg (by omega), if_pos (by omega), ← hwd]
             exact p80hP2)
          | (have z3 : tNc a_ i = oCi a_ 0 i := if_neg (by have z2 := o86 () (by omega); omega)
             rw [if_neg (by omega), if_neg (by omega), z3, ← hnd, ← p94hv]
             have e1 : tLen (tFc a_ i) = (if tFc a_ i = 78 then 1 else 0) := rfl
             first
             | (rw [e1, if_pos (by omega)]
                exact p109hP2)
             | (rw [e1, if_neg (by omega)]
                exact p109hP2)))
