/-! wd -/
def T_O_wln : ZT := fun args I L R S Q => ∃ (k : Nat) (O : OoS) (dp : Nat → Nat), args = [zvr k] ∧ (zSh S) ∧ (zRs R) ∧ (zDy zT2 zF2 k R S) ∧ (43 ≤ k ∧ k ≤ 52) ∧ (zOB k O I L) ∧ (oGd O) ∧ (oNg O) ∧ (∀ j, j < ocn O → I (k + 3) j = dp j ∧ dp j ≤ 300) ∧ (zPG k [] I) ∧ ∀ (I' : ZI), (zPG k (wLi O dp (ocn O)) I') → (∀ c j : Nat, ¬ (c = k ∧ j = 12) → ¬ c = k + 8 → I' c j = I c j) → Q none I' L R S
theorem sn_O_wln : ZSnd 5 2 29 T_O_wln := ZSnd.loops (zT2_29 4) (by
  rintro args I L R S Q hz ⟨k, O, dp, rfl, hS, hR, hD, hk, hO, hG, hN, hdp, hP, hQ⟩
  obtain ⟨g1, g2, g3, g4, g5⟩ := id hG
  obtain ⟨o1, o2, o3, o4⟩ := id hO
  refine ⟨[2], fun nM tM lsM stM I1 L1 R1 S1 => match tM with
      | 2 => ∃ (i : Nat), nM = ((201 - i), 0, 0) ∧ lsM = [some (zvr (k)), some (zvi (i))] ∧ stM = [] ∧ L1 = L ∧ R1 = R ∧ S1 = S ∧ (i ≤ ocn O) ∧ (zPG k (wLi O dp i) I1) ∧ (∀ c j : Nat, ¬ (c = k ∧ j = 12) → ¬ c = k + 8 → I1 c j = I c j)
      | _ => False, rfl, ?_, ⟨?_, True.intro⟩⟩
  · refine ⟨((201 - (0 : Nat)), 0, 0), [some (zvr (k)), some (zvi ((0 : Nat)))], ⟨rfl, rfl, rfl⟩, 0, rfl, rfl, rfl, rfl, rfl, rfl, (by omega), hP, (fun c j h0 h1 => rfl)⟩
  · rintro nM lsM stM I1 L1 R1 S1 hz1 ⟨i, rfl, rfl, rfl, rfl, rfl, rfl, hi, hP1, fr⟩
    have di := fun h => hdp i h
    have ki := fun h => (o2 i h).1
    have kb := fun h => (g2 i h).1
    refine And.intro (zDX hD 0 rfl) (zrd (v := (ocn O)) ((fr k 0 (by omega) (by omega)).trans o1) ?_)
    refine And.intro ⟨(by omega), (by omega)⟩ ⟨fun h7 => ?_, fun h7 => ?_⟩
    · refine hQ _ (by have e : i = ocn O := (by omega); rw [← e]; exact hP1) (fun c j h0 h1 => ((fr c j h0 h1).trans rfl))
    · refine And.intro (zDX hD 0 rfl) (zrdR (v := some (k + 3)) (zDR hD 2 rfl) ?_)
      refine And.intro (zDP hD 3 rfl rfl (by omega) (by omega)) (fun v18 e18 r18 => ?_)
      have f18 : v18 = dp i := (e18.trans ((congrArg (I1 (k + 3)) (by omega)).trans ((fr (k + 3) i (by omega) (by omega)).trans (di (by omega)).1)))
      refine And.intro (zDX hD 0 rfl) ⟨_, sn_O_tms.up (by decide), ?_⟩
      refine ⟨k, (wLi O dp i), (46 : Int), (v18 : Int), (dp i), rfl, hS, hR, hD, (by omega), hP1, (by omega), ⟨by omega, by have z := (di (by omega)).2; omega⟩, ?_⟩
      intro I19o p19hP2 p19bfr
      refine And.intro (zDX hD 0 rfl) (zrdR (v := some (k + 1)) (zDR hD 0 rfl) ?_)
      refine And.intro (zDP hD 1 rfl rfl (by omega) (by omega)) (fun v27 e27 r27 => ?_)
      have f27 : v27 = okd O i := (e27.trans ((p19bfr (k + 1) _ (by omega) (by omega)).trans ((congrArg (I1 (k + 1)) (by omega)).trans ((fr (k + 1) i (by omega) (by omega)).trans (ki (by omega))))))
      refine And.intro ⟨r27, (zRb rfl)⟩ ⟨fun h30 => ?_, fun h30 => ?_⟩
      · refine And.intro (zDX hD 0 rfl) ⟨_, sn_O_obj.up (by decide), ?_⟩
        refine ⟨k, (wLi O dp i ++ wTm 46 (dp i)), O, (i : Int), i, (okd O i).toNat, rfl, hS, hR, hD, (by omega), p19hP2, (by first | exact (zOB_fr hO (fun c j h => ((p19bfr c j (by omega) (by omega)).trans ((fr c j (by omega) (by omega)).trans rfl))) (fun c j h => rfl)) | (clear hQ; grind [xu])), (by first | exact hG | (clear hQ; grind [xu])), (by first | exact hN | (clear hQ; grind [xu])), (by omega), (by have z := kb (by omega); omega), (by have z := kb (by omega); omega), ?_⟩
        intro I44o p44hP2 p44bfr
        refine And.intro (zDX hD 0 rfl) ⟨_, sn_O_emt.up (by decide), ?_⟩
        refine ⟨k, (wLi O dp i ++ wTm 46 (dp i) ++ wOw O i), (10 : Int), rfl, hS, hR, hD, (by omega), (by first | (rw [wOw_9 (by omega)]; exact p36hP2) | (rw [wOw_n (by omega)]; exact p44hP2)), (by omega), ?_⟩
        intro I50o p50hP2 p50bfr
        refine ⟨((201 - (i + 1)), 0, 0), zlt6 (by omega), [some (zvr (k)), some (zvi ((i + 1)))], ⟨rfl, rfl, rfl⟩, (i + 1), rfl, rfl, rfl, rfl, rfl, rfl, (by omega), (by show zPG k (wLi O dp i ++ (wTm 46 (dp i) ++ (wOw O i ++ [10]))) _; rw [← List.append_assoc, ← List.append_assoc]; exact p50hP2), (fun c j h0 h1 => ((p50bfr c j h0 h1).trans ((p44bfr c j h0 h1).trans ((p19bfr c j h0 h1).trans ((fr c j h0 h1).trans rfl)))))⟩
      · refine And.intro (zDX hD 0 rfl) ⟨_, sn_O_etx.up (by decide), ?_⟩
        refine ⟨k, (wLi O dp i ++ wTm 46 (dp i)), O, (i : Int), i, (0 : Int), 0, rfl, hS, hR, hD, (by omega), p19hP2, (by first | exact (zOB_fr hO (fun c j h => ((p19bfr c j (by omega) (by omega)).trans ((fr c j (by omega) (by omega)).trans rfl))) (fun c j h => rfl)) | (clear hQ; grind [xu])), (by first | exact hG | (clear hQ; grind [xu])), (by omega), (by omega), ?_⟩
        intro I36o p36hP2 p36bfr
        refine And.intro (zDX hD 0 rfl) ⟨_, sn_O_emt.up (by decide), ?_⟩
        refine ⟨k, (wLi O dp i ++ wTm 46 (dp i) ++ wOw O i), (10 : Int), rfl, hS, hR, hD, (by omega), (by first | (rw [wOw_9 (by omega)]; exact p36hP2) | (rw [wOw_n (by omega)]; exact p44hP2)), (by omega), ?_⟩
        intro I50o p50hP2 p50bfr
        refine ⟨((201 - (i + 1)), 0, 0), zlt6 (by omega), [some (zvr (k)), some (zvi ((i + 1)))], ⟨rfl, rfl, rfl⟩, (i + 1), rfl, rfl, rfl, rfl, rfl, rfl, (by omega), (by show zPG k (wLi O dp i ++ (wTm 46 (dp i) ++ (wOw O i ++ [10]))) _; rw [← List.append_assoc, ← List.append_assoc]; exact p50hP2), (fun c j h0 h1 => ((p50bfr c j h0 h1).trans ((p36bfr c j h0 h1).trans ((p19bfr c j h0 h1).trans ((fr c j h0 h1).trans rfl)))))⟩)
def T_O_wls : ZT := fun args I L R S Q => ∃ (k : Nat) (O : OoS) (dp : Nat → Nat), args = [zvr k] ∧ (zSh S) ∧ (zRs R) ∧ (zDy zT2 zF2 k R S) ∧ (43 ≤ k ∧ k ≤ 52) ∧ (zOB k O I L) ∧ (oGd O) ∧ (oNg O) ∧ (∀ j, j < ocn O → I (k + 3) j = dp j ∧ dp j ≤ 300) ∧ (zPG k [] I) ∧ ∀ (I' : ZI), (zPG k (wLs O dp (ocn O) ++ (wTm 41 (wLo O dp (ocn O)) ++ [10])) I') → (∀ c j : Nat, ¬ (c = k ∧ j = 12) → ¬ c = k + 8 → I' c j = I c j) → Q none I' L R S
theorem sn_O_wls : ZSnd 5 2 30 T_O_wls := ZSnd.loops (zT2_30 4) (by
  rintro args I L R S Q hz ⟨k, O, dp, rfl, hS, hR, hD, hk, hO, hG, hN, hdp, hP, hQ⟩
  obtain ⟨g1, g2, g3, g4, g5⟩ := id hG
  obtain ⟨o1, o2, o3, o4⟩ := id hO
  refine ⟨[4, 12], fun nM tM lsM stM I1 L1 R1 S1 => match tM with
      | 4 => ∃ (i : Nat) (o : Nat), nM = ((201 - i), 1000, 0) ∧ lsM = [some (zvr (k)), some (zvi (o)), some (zvi (i))] ∧ stM = [] ∧ L1 = L ∧ R1 = R ∧ S1 = S ∧ (i ≤ ocn O) ∧ (o = wLo O dp i) ∧ (o ≤ 301) ∧ (zPG k (wLs O dp i) I1) ∧ (∀ c j : Nat, ¬ (c = k ∧ j = 12) → ¬ c = k + 8 → I1 c j = I c j)
      | 12 => ∃ (i : Nat) (o : Nat) (m : Nat), nM = ((201 - i), o, 0) ∧ lsM = [some (zvr (k)), some (zvi (o)), some (zvi (i))] ∧ stM = [] ∧ L1 = L ∧ R1 = R ∧ S1 = S ∧ (i < ocn O) ∧ (o + m = wLo O dp i ∧ m ≤ wLo O dp i - dp i) ∧ (o ≤ 301) ∧ (zPG k ((wLs O dp i) ++ wTm 41 m) I1) ∧ (∀ c j : Nat, ¬ (c = k ∧ j = 12) → ¬ c = k + 8 → I1 c j = I c j)
      | _ => False, rfl, ?_, ⟨?_, ?_, True.intro⟩⟩
  · refine ⟨((201 - (0 : Nat)), 1000, 0), [some (zvr (k)), some (zvi ((0 : Nat))), some (zvi ((0 : Nat)))], ⟨rfl, rfl, rfl, rfl⟩, 0, 0, rfl, rfl, rfl, rfl, rfl, rfl, (by omega), rfl, (by omega), hP, (fun c j h0 h1 => rfl)⟩
  · rintro nM lsM stM I1 L1 R1 S1 hz1 ⟨i, o, rfl, rfl, rfl, rfl, rfl, rfl, hi, ho, hob, hP1, fr⟩
    refine And.intro (zDX hD 0 rfl) (zrd (v := (ocn O)) ((fr k 0 (by omega) (by omega)).trans o1) ?_)
    refine And.intro ⟨(by omega), (by omega)⟩ ⟨fun h9 => ?_, fun h9 => ?_⟩
    · refine And.intro (zDX hD 0 rfl) ⟨_, sn_O_tms.up (by decide), ?_⟩
      refine ⟨k, (wLs O dp (ocn O)), (41 : Int), (o : Int), o, rfl, hS, hR, hD, (by omega), (by have e : i = ocn O := (by omega); rw [← e]; exact hP1), (by omega), ⟨rfl, by omega⟩, ?_⟩
      intro I100o p100hP2 p100bfr
      refine And.intro (zDX hD 0 rfl) ⟨_, sn_O_emt.up (by decide), ?_⟩
      refine ⟨k, (wLs O dp (ocn O) ++ wTm 41 o), (10 : Int), rfl, hS, hR, hD, (by omega), p100hP2, (by omega), ?_⟩
      intro I106o p106hP2 p106bfr
      refine hQ _ ?_ (fun c j h0 h1 => ((p106bfr c j h0 h1).trans ((p100bfr c j h0 h1).trans ((fr c j h0 h1).trans rfl))))
      · have e : i = ocn O := by omega
        have e3 : o = wLo O dp (ocn O) := by rw [← e]; exact ho
        rw [← List.append_assoc, ← e3]
        exact p106hP2
    · refine ⟨((201 - i), o, 0), zlt6 (by omega), [some (zvr (k)), some (zvi (o)), some (zvi (i))], ⟨rfl, rfl, rfl, rfl⟩, i, o, 0, rfl, rfl, rfl, rfl, rfl, rfl, (by omega), (by omega), (by omega), (by show zPG k (wLs O dp i ++ []) _; rw [List.append_nil]; exact hP1), (fun c j h0 h1 => ((fr c j h0 h1).trans rfl))⟩
  · rintro nM lsM stM I1 L1 R1 S1 hz1 ⟨i, o, m, rfl, rfl, rfl, rfl, rfl, rfl, hi, ho, hob, hP1, fr⟩
    have di := hdp i hi
    have di2 := di.2
    have ki := (o2 i hi).1
    have kb := (g2 i hi).1
    refine And.intro (zDX hD 0 rfl) (zrdR (v := some (k + 3)) (zDR hD 2 rfl) ?_)
    refine And.intro (zDP hD 3 rfl rfl (by omega) (by omega)) (fun v18 e18 r18 => ?_)
    have f18 : v18 = dp i := (e18.trans ((congrArg (I1 (k + 3)) (by omega)).trans ((fr (k + 3) i (by omega) (by omega)).trans di.1)))
    refine And.intro ⟨(by omega), r18⟩ ⟨fun h19 => ?_, fun h19 => ?_⟩
    · refine And.intro (by omega) ⟨fun h35 => ?_, fun h35 => ?_⟩
      · refine And.intro (zDX hD 0 rfl) (zrdR (v := some (k + 1)) (zDR hD 0 rfl) ?_)
        refine And.intro (zDP hD 1 rfl rfl (by omega) (by omega)) (fun v61 e61 r61 => ?_)
        have f61 : v61 = okd O i := (by first | exact e61.trans ((p53bfr (k + 1) _ (by omega) (by omega)).trans ((p41bfr (k + 1) _ (by omega) (by omega)).trans ((congrArg (I1 (k + 1)) (by omega)).trans ((fr (k + 1) i (by omega) (by omega)).trans ki)))) | exact e61.trans ((congrArg (I1 (k + 1)) (by omega)).trans ((fr (k + 1) i (by omega) (by omega)).trans ki)))
        refine And.intro ⟨r61, (zRb rfl)⟩ ⟨fun h64 => ?_, fun h64 => ?_⟩
        · refine And.intro (zDX hD 0 rfl) ⟨_, sn_O_emt.up (by decide), ?_⟩
          refine ⟨k, _, (40 : Int), rfl, hS, hR, hD, (by omega), (by first | exact p53hP2 | exact hP1), (by omega), ?_⟩
          intro I79o p79hP2 p79bfr
          refine And.intro (zDX hD 0 rfl) ⟨_, sn_O_obj.up (by decide), ?_⟩
          refine ⟨k, _, O, (i : Int), i, (okd O i).toNat, rfl, hS, hR, hD, (by omega), p79hP2, (by first | exact (zOB_fr hO (fun c j h => ((p79bfr c j (by omega) (by omega)).trans ((fr c j (by omega) (by omega)).trans rfl))) (fun c j h => rfl)) | (clear hQ; grind [xu])), (by first | exact hG | (clear hQ; grind [xu])), (by first | exact hN | (clear hQ; grind [xu])), (by omega), (by omega), (by omega), ?_⟩
          intro I84o p84hP2 p84bfr
          refine ⟨((201 - (i + 1)), 1000, 0), zlt6 (by omega), [some (zvr (k)), some (zvi ((o + 1))), some (zvi ((i + 1)))], ⟨rfl, rfl, rfl, rfl⟩, (i + 1), (o + 1), rfl, rfl, rfl, rfl, rfl, rfl, (by omega), (by first | (rw [wLo_9 (by omega)]; omega) | (rw [wLo_n (by omega)]; omega)), (by omega), ?_, (fun c j h0 h1 => ((p84bfr c j h0 h1).trans ((p79bfr c j h0 h1).trans ((fr c j h0 h1).trans rfl))))⟩
          · have em : m = wLo O dp i - dp i := by omega
            show zPG k (wLs O dp i ++ (wTm 41 (wLo O dp i - dp i) ++ ((if 0 < i then [10] ++ wTm 32 (dp i) else []) ++ if okd O i = 9 then [] else [40]) ++ wOw O i)) _
            rw [← em]
            first
            | (rw [if_neg (by omega), if_pos (by omega), wOw_9 (by omega)]
               simpa only [List.append_assoc, List.nil_append, List.append_nil, List.cons_append] using p70hP2)
            | (rw [if_pos (by omega), if_pos (by omega), wOw_9 (by omega)]
               simpa only [List.append_assoc, List.nil_append, List.append_nil, List.cons_append] using p70hP2)
            | (rw [if_neg (by omega), if_neg (by omega), wOw_n (by omega)]
               simpa only [List.append_assoc, List.nil_append, List.append_nil, List.cons_append] using p84hP2)
            | (rw [if_pos (by omega), if_neg (by omega), wOw_n (by omega)]
               simpa only [List.append_assoc, List.nil_append, List.append_nil, List.cons_append] using p84hP2)
        · refine And.intro (zDX hD 0 rfl) ⟨_, sn_O_etx.up (by decide), ?_⟩
          refine ⟨k, _, O, (i : Int), i, (0 : Int), 0, rfl, hS, hR, hD, (by omega), (by first | exact p53hP2 | exact hP1), (by first | exact (zOB_fr hO (fun c j h => ((fr c j (by omega) (by omega)).trans rfl)) (fun c j h => rfl)) | (clear hQ; grind [xu])), (by first | exact hG | (clear hQ; grind [xu])), (by omega), (by omega), ?_⟩
          intro I70o p70hP2 p70bfr
          refine ⟨((201 - (i + 1)), 1000, 0), zlt6 (by omega), [some (zvr (k)), some (zvi (o)), some (zvi ((i + 1)))], ⟨rfl, rfl, rfl, rfl⟩, (i + 1), _, rfl, rfl, rfl, rfl, rfl, rfl, (by omega), (by first | (rw [wLo_9 (by omega)]; omega) | (rw [wLo_n (by omega)]; omega)), (by omega), ?_, (fun c j h0 h1 => ((p70bfr c j h0 h1).trans ((fr c j h0 h1).trans rfl)))⟩
          · have em : m = wLo O dp i - dp i := by omega
            show zPG k (wLs O dp i ++ (wTm 41 (wLo O dp i - dp i) ++ ((if 0 < i then [10] ++ wTm 32 (dp i) else []) ++ if okd O i = 9 then [] else [40]) ++ wOw O i)) _
            rw [← em]
            first
            | (rw [if_neg (by omega), if_pos (by omega), wOw_9 (by omega)]
               simpa only [List.append_assoc, List.nil_append, List.append_nil, List.cons_append] using p70hP2)
            | (rw [if_pos (by omega), if_pos (by omega), wOw_9 (by omega)]
               simpa only [List.append_assoc, List.nil_append, List.append_nil, List.cons_append] using p70hP2)
            | (rw [if_neg (by omega), if_neg (by omega), wOw_n (by omega)]
               simpa only [List.append_assoc, List.nil_append, List.append_nil, List.cons_append] using p84hP2)
            | (rw [if_pos (by omega), if_neg (by omega), wOw_n (by omega)]
               simpa only [List.append_assoc, List.nil_append, List.append_nil, List.cons_append] using p84hP2)
      · refine And.intro (zDX hD 0 rfl) ⟨_, sn_O_emt.up (by decide), ?_⟩
        refine ⟨k, ((wLs O dp i) ++ wTm 41 m), (10 : Int), rfl, hS, hR, hD, (by omega), hP1, (by omega), ?_⟩
        intro I41o p41hP2 p41bfr
        refine And.intro (zDX hD 0 rfl) (zrdR (v := some (k + 3)) (zDR hD 2 rfl) ?_)
        refine And.intro (zDP hD 3 rfl rfl (by omega) (by omega)) (fun v52 e52 r52 => ?_)
        have f52 : v52 = dp i := (e52.trans ((p41bfr (k + 3) _ (by omega) (by omega)).trans ((congrArg (I1 (k + 3)) (by omega)).trans ((fr (k + 3) i (by omega) (by omega)).trans di.1))))
        refine And.intro (zDX hD 0 rfl) ⟨_, sn_O_tms.up (by decide), ?_⟩
        refine ⟨k, ((wLs O dp i) ++ wTm 41 m ++ [10]), (32 : Int), (v52 : Int), (dp i), rfl, hS, hR, hD, (by omega), p41hP2, (by omega), ⟨by omega, by omega⟩, ?_⟩
        intro I53o p53hP2 p53bfr
        refine And.intro (zDX hD 0 rfl) (zrdR (v := some (k + 1)) (zDR hD 0 rfl) ?_)
        refine And.intro (zDP hD 1 rfl rfl (by omega) (by omega)) (fun v61 e61 r61 => ?_)
        have f61 : v61 = okd O i := (by first | exact e61.trans ((p53bfr (k + 1) _ (by omega) (by omega)).trans ((p41bfr (k + 1) _ (by omega) (by omega)).trans ((congrArg (I1 (k + 1)) (by omega)).trans ((fr (k + 1) i (by omega) (by omega)).trans ki)))) | exact e61.trans ((congrArg (I1 (k + 1)) (by omega)).trans ((fr (k + 1) i (by omega) (by omega)).trans ki)))
        refine And.intro ⟨r61, (zRb rfl)⟩ ⟨fun h64 => ?_, fun h64 => ?_⟩
        · refine And.intro (zDX hD 0 rfl) ⟨_, sn_O_emt.up (by decide), ?_⟩
          refine ⟨k, _, (40 : Int), rfl, hS, hR, hD, (by omega), (by first | exact p53hP2 | exact hP1), (by omega), ?_⟩
          intro I79o p79hP2 p79bfr
          refine And.intro (zDX hD 0 rfl) ⟨_, sn_O_obj.up (by decide), ?_⟩
          refine ⟨k, _, O, (i : Int), i, (okd O i).toNat, rfl, hS, hR, hD, (by omega), p79hP2, (by first | exact (zOB_fr hO (fun c j h => ((p79bfr c j (by omega) (by omega)).trans ((p53bfr c j (by omega) (by omega)).trans ((p41bfr c j (by omega) (by omega)).trans ((fr c j (by omega) (by omega)).trans rfl))))) (fun c j h => rfl)) | (clear hQ; grind [xu])), (by first | exact hG | (clear hQ; grind [xu])), (by first | exact hN | (clear hQ; grind [xu])), (by omega), (by omega), (by omega), ?_⟩
          intro I84o p84hP2 p84bfr
          refine ⟨((201 - (i + 1)), 1000, 0), zlt6 (by omega), [some (zvr (k)), some (zvi ((o + 1))), some (zvi ((i + 1)))], ⟨rfl, rfl, rfl, rfl⟩, (i + 1), (o + 1), rfl, rfl, rfl, rfl, rfl, rfl, (by omega), (by first | (rw [wLo_9 (by omega)]; omega) | (rw [wLo_n (by omega)]; omega)), (by omega), ?_, (fun c j h0 h1 => ((p84bfr c j h0 h1).trans ((p79bfr c j h0 h1).trans ((p53bfr c j h0 h1).trans ((p41bfr c j h0 h1).trans ((fr c j h0 h1).trans rfl))))))⟩
          · have em : m = wLo O dp i - dp i := by omega
            show zPG k (wLs O dp i ++ (wTm 41 (wLo O dp i - dp i) ++ ((if 0 < i then [10] ++ wTm 32 (dp i) else []) ++ if okd O i = 9 then [] else [40]) ++ wOw O i)) _
            rw [← em]
            first
            | (rw [if_neg (by omega), if_pos (by omega), wOw_9 (by omega)]
               simpa only [List.append_assoc, List.nil_append, List.append_nil, List.cons_append] using p70hP2)
            | (rw [if_pos (by omega), if_pos (by omega), wOw_9 (by omega)]
               simpa only [List.append_assoc, List.nil_append, List.append_nil, List.cons_append] using p70hP2)
            | (rw [if_neg (by omega), if_neg (by omega), wOw_n (by omega)]
               simpa only [List.append_assoc, List.nil_append, List.append_nil, List.cons_append] using p84hP2)
            | (rw [if_pos (by omega), if_neg (by omega), wOw_n (by omega)]
               simpa only [List.append_assoc, List.nil_append, List.append_nil, List.cons_append] using p84hP2)
        · refine And.intro (zDX hD 0 rfl) ⟨_, sn_O_etx.up (by decide), ?_⟩
          refine ⟨k, _, O, (i : Int), i, (0 : Int), 0, rfl, hS, hR, hD, (by omega), (by first | exact p53hP2 | exact hP1), (by first | exact (zOB_fr hO (fun c j h => ((p53bfr c j (by omega) (by omega)).trans ((p41bfr c j (by omega) (by omega)).trans ((fr c j (by omega) (by omega)).trans rfl)))) (fun c j h => rfl)) | (clear hQ; grind [xu])), (by first | exact hG | (clear hQ; grind [xu])), (by omega), (by omega), ?_⟩
          intro I70o p70hP2 p70bfr
          refine ⟨((201 - (i + 1)), 1000, 0), zlt6 (by omega), [some (zvr (k)), some (zvi (o)), some (zvi ((i + 1)))], ⟨rfl, rfl, rfl, rfl⟩, (i + 1), _, rfl, rfl, rfl, rfl, rfl, rfl, (by omega), (by first | (rw [wLo_9 (by omega)]; omega) | (rw [wLo_n (by omega)]; omega)), (by omega), ?_, (fun c j h0 h1 => ((p70bfr c j h0 h1).trans ((p53bfr c j h0 h1).trans ((p41bfr c j h0 h1).trans ((fr c j h0 h1).trans rfl)))))⟩
          · have em : m = wLo O dp i - dp i := by omega
            show zPG k (wLs O dp i ++ (wTm 41 (wLo O dp i - dp i) ++ ((if 0 < i then [10] ++ wTm 32 (dp i) else []) ++ if okd O i = 9 then [] else [40]) ++ wOw O i)) _
            rw [← em]
            first
            | (rw [if_neg (by omega), if_pos (by omega), wOw_9 (by omega)]
               simpa only [List.append_assoc, List.nil_append, List.append_nil, List.cons_append] using p70hP2)
            | (rw [if_pos (by omega), if_pos (by omega), wOw_9 (by omega)]
               simpa only [List.append_assoc, List.nil_append, List.append_nil, List.cons_append] using p70hP2)
            | (rw [if_neg (by omega), if_neg (by omega), wOw_n (by omega)]
               simpa only [List.append_assoc, List.nil_append, List.append_nil, List.cons_append] using p84hP2)
            | (rw [if_pos (by omega), if_neg (by omega), wOw_n (by omega)]
               simpa only [List.append_assoc, List.nil_append, List.append_nil, List.cons_append] using p84hP2)
    · refine And.intro (zDX hD 0 rfl) ⟨_, sn_O_emt.up (by decide), ?_⟩
      refine ⟨k, ((wLs O dp i) ++ wTm 41 m), (41 : Int), rfl, hS, hR, hD, (by omega), hP1, (by omega), ?_⟩
      intro I25o p25hP2 p25bfr
      refine ⟨((201 - i), ((o - 1) : Nat), 0), zlt6 (by omega), [some (zvr (k)), some (zvi (((o - 1) : Nat))), some (zvi (i))], ⟨rfl, (congrArg (fun z => some (zvi z)) (by omega)), rfl, rfl⟩, i, (o - 1), (m + 1), rfl, rfl, rfl, rfl, rfl, rfl, (by omega), (by omega), (by omega), (by show zPG k (wLs O dp i ++ (wTm 41 m ++ [41])) _; rw [← List.append_assoc]; exact p25hP2), (fun c j h0 h1 => ((p25bfr c j h0 h1).trans ((fr c j h0 h1).trans rfl)))⟩)
def T_O_wpg : ZT := fun args I L R S Q => ∃ (k : Nat) (O : OoS) (dp : Nat → Nat) (fm : Int), args = [zvr k] ∧ (zSh S) ∧ (zRs R) ∧ (zDy zT2 zF2 k R S) ∧ (43 ≤ k ∧ k ≤ 52) ∧ (zOB k O I L) ∧ (oGd O) ∧ (oNg O) ∧ (∀ j, j < ocn O → I (k + 3) j = dp j ∧ dp j ≤ 300) ∧ (I k 1 = fm) ∧ (0 ≤ fm ∧ fm ≤ 1) ∧ ∀ (I' : ZI), (zPG k (wPg O dp fm) I') → (∀ c j : Nat, ¬ (c = k ∧ j = 12) → ¬ c = k + 8 → I' c j = I c j) → Q none I' L R S
theorem sn_O_wpg : ZSnd 6 2 31 T_O_wpg := ZSnd.of (zT2_31 5) (by
  rintro args I L R S Q hz ⟨k, O, dp, fm, rfl, hS, hR, hD, hk, hO, hG, hN, hdp, hfm, hfm2, hQ⟩
  obtain ⟨g1, g2, g3, g4, g5⟩ := id hG
  obtain ⟨o1, o2, o3, o4⟩ := id hO
  refine And.intro rfl ?_
  refine And.intro (zDX hD 0 rfl) ⟨_, (zWi (zRb rfl)), ?_⟩
  refine And.intro (zDX hD 0 rfl) (zrd (v := fm) (zxs (by decide) hfm) ?_)
  refine And.intro (by omega) ⟨fun h9 => ?_, fun h9 => ?_⟩
  · refine And.intro (zDX hD 0 rfl) ⟨_, sn_O_wln.up (by decide), ?_⟩
    refine ⟨k, O, dp, rfl, hS, hR, hD, (by omega), (by first | exact (zOB_fr hO (fun c j h => (zxcj (by omega) rfl)) (fun c j h => rfl)) | (clear hQ; grind [xu])), (by first | exact hG | (clear hQ; grind [xu])), (by first | exact hN | (clear hQ; grind [xu])), (fun j hj => ⟨(zxu (by omega) rfl : _ = I (k + 3) j).trans (hdp j hj).1, (hdp j hj).2⟩), (zPG_0 zxe), ?_⟩
    intro I20o p20hP2 p20bfr
    refine hQ _ (by unfold wPg; first | (rw [if_pos (by omega)]; exact p13hP2) | (rw [if_neg (by omega)]; exact p20hP2)) (fun c j h0 h1 => ((p20bfr c j h0 h1).trans (zxcj h0 rfl)))
  · refine And.intro (zDX hD 0 rfl) ⟨_, sn_O_wls.up (by decide), ?_⟩
    refine ⟨k, O, dp, rfl, hS, hR, hD, (by omega), (by first | exact (zOB_fr hO (fun c j h => (zxcj (by omega) rfl)) (fun c j h => rfl)) | (clear hQ; grind [xu])), (by first | exact hG | (clear hQ; grind [xu])), (by first | exact hN | (clear hQ; grind [xu])), (fun j hj => ⟨(zxu (by omega) rfl : _ = I (k + 3) j).trans (hdp j hj).1, (hdp j hj).2⟩), (zPG_0 zxe), ?_⟩
    intro I13o p13hP2 p13bfr
    refine hQ _ (by unfold wPg; first | (rw [if_pos (by omega)]; exact p13hP2) | (rw [if_neg (by omega)]; exact p20hP2)) (fun c j h0 h1 => ((p13bfr c j h0 h1).trans (zxcj h0 rfl))))
def T_O_pgl : ZT := fun args I L R S Q => ∃ (k : Nat) (w : List Int) (i : Int), args = [zvr k, zvi i] ∧ (zSh S) ∧ (zRs R) ∧ (zDy zT2 zF2 k R S) ∧ (43 ≤ k ∧ k ≤ 52) ∧ (zPG k w I) ∧ (w.length ≤ 26000) ∧ (r32 i) ∧ ∀ (v : Int), (v = if 0 ≤ i ∧ i < w.length then wAt w i.toNat else -1) → Q (some (zvi (v))) I L R S
theorem sn_O_pgl : ZSnd 1 2 19 T_O_pgl := ZSnd.of (zT2_19 0) (by
  rintro args I L R S Q hz ⟨k, w, i, rfl, hS, hR, hD, hk, hP, hw26, hi, hQ⟩
  have q1 : I k 12 = w.length := hP.1.trans (congrArg Nat.cast (Nat.min_eq_left hw26))
  refine And.intro rfl ?_
  refine And.intro (by omega) ⟨fun h1 => ?_, fun h1 => ?_⟩
  · refine hQ _ (by first | (rw [if_pos (by omega)]; omega) | (rw [if_neg (by omega)]))
  · refine And.intro (zDX hD 0 rfl) (zrd (v := (w.length)) q1 ?_)
    refine And.intro ⟨(by omega), (by omega)⟩ ⟨fun h9 => ?_, fun h9 => ?_⟩
    · refine hQ _ (by first | (rw [if_pos (by omega)]; omega) | (rw [if_neg (by omega)]))
    · refine And.intro (zDX hD 0 rfl) (zrdR (v := some (k + 8)) (zDR hD 7 rfl) ?_)
      refine And.intro (zDP hD 8 rfl rfl (by omega) (by omega)) (fun v17 e17 r17 => ?_)
      have f17 : v17 = wAt w i.toNat := (e17.trans (hP.2 i.toNat (by omega)))
      refine hQ _ (by first | (rw [if_pos (by omega)]; omega) | (rw [if_neg (by omega)])))
