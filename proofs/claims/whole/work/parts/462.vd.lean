/-! vd -/
def T_M_not : ZT := fun args I L R S Q => ∃ (k : Nat) (O : OoS) (q : Nat) (d : JdS) (j : Int) (j_ : Nat) (s : Int), args = [zvr 165, zvr k, zvi j, zvi s] ∧ (zSh S) ∧ (zRs R) ∧ (zDy zT20 zF20 k R S) ∧ (168 ≤ k ∧ k ≤ 181) ∧ (zOM k O I L) ∧ (oGd O) ∧ (R 165 7 = some q) ∧ (zDy zT18 zF18 q R S) ∧ (302 ≤ q) ∧ (zNJ q d I L) ∧ (oOk O d) ∧ (zJN q d I) ∧ (zMH O (ocn O) d I) ∧ (j = j_ ∧ j_ < ocn O) ∧ (okd O j_ = 6) ∧ (0 ≤ s ∧ s < dns d ∧ dbs d s.toNat = s) ∧ ∀ (I' : ZI) (L' : ZI), (zNJ q (oNt O j_ d s) I' L') → (zJN q (oNt O j_ d s) I') → (∀ c j : Nat, ¬ (q ≤ c ∧ c ≤ q + 22) → ¬ (c = k ∧ j = 0) → I' c j = I c j) → (∀ c j : Nat, ¬ (q ≤ c ∧ c ≤ q + 22) → L' c j = L c j) → Q none I' L' R S
theorem sn_M_not : ZSnd 8 21 40 T_M_not := ZSnd.loops (zT21_40 7) (by
  rintro args I L R S Q hz ⟨k, O, q, d, j, j_, s, rfl, hS, hR, hD, hk, hO, hG, hdq, hDq, hq, hNJ, hok, hJN, hM, hj, hk6, hs, hQ⟩
  obtain ⟨o1, o2, o3, o4⟩ := id hO
  obtain ⟨g1, g2, g3, g4, g5⟩ := id hG
  have hk40 := hD.1
  have hk1 := hk.1
  have hk2 := hk.2
  have hjg := hok.1
  obtain ⟨⟨j1, j2, j3, j4, j5, j6⟩, gs, gw, gj, gl, gp, gt⟩ := id hjg
  obtain ⟨m1, m2, m3⟩ := id hM
  have oq := (g4 j_ 0 (by omega) (by omega)).2 (by omega)
  refine ⟨[88, 190], fun nM tM lsM stM I1 L1 R1 S1 => match tM with
      | 88 => ∃ (a : Int) (i : Int) (x : Int) (y : Int) (n : Int), nM = (2, (41 - i.toNat), 0) ∧ lsM = [some (zvr (165)), some (zvr (k)), some (zvi (j_)), some (zvi (s)), some (zvl (x)), none, some (zvl (y)), none, some (zvi (otl O j_ 0)), some (zvi (a)), some (zvi (n)), some (zvi (i)), none, none] ∧ stM = [] ∧ L1 = L ∧ R1 = R ∧ S1 = S ∧ (a = oFr O j_ ∧ 0 ≤ a ∧ a ≤ 1) ∧ (a ≤ i ∧ i ≤ otl O j_ 0) ∧ (x = onm O j_ 0 ∧ y = onm O j_ 1) ∧ ((-1000000000 ≤ x ∧ x ≤ 1000000000) ∧ -1000000000 ≤ y ∧ y ≤ 1000000000) ∧ (¬ oPl O j_) ∧ (∀ z : Nat, a ≤ z → z < i → oDg O j_ z) ∧ ((otl O j_ 0 ≤ a + 3 → n = oVl O j_ a.toNat (i.toNat - a.toNat)) ∧ (a + 3 < otl O j_ 0 → n = 0)) ∧ ((0 ≤ n ∧ n ≤ 999) ∧ (i ≤ a + 2 → n ≤ 99) ∧ (i ≤ a + 1 → n ≤ 9) ∧ (i = a → n = 0)) ∧ (∀ c j : Nat, ¬ (c = k ∧ j = 0) → I1 c j = I c j)
      | 190 => ∃ (a : Int) (t : Nat) (n : Int) (l : Int), nM = (1, (17 - t), 0) ∧ lsM = [some (zvr (165)), none, none, some (zvi (s)), none, none, none, none, none, some (zvi (a)), some (zvi (n)), some (zvi (l)), some (zvi (t)), none] ∧ stM = [] ∧ R1 = R ∧ S1 = S ∧ (a = oFr O j_ ∧ 0 ≤ a ∧ a ≤ 1) ∧ (t ≤ dns d) ∧ (l = if dnl d < 60 then (dnl d : Int) else -1) ∧ (n = oNm O j_ ∧ 0 ≤ n ∧ n ≤ 999) ∧ (¬ oPl O j_) ∧ (zNJ q (if dnl d < 60 ∧ a = 1 then oPd d s (onm O j_ 0) (onm O j_ 1) n t else djLs d s (onm O j_ 0) (onm O j_ 1) n) I1 L1) ∧ (zJN q (if dnl d < 60 ∧ a = 1 then oPd d s (onm O j_ 0) (onm O j_ 1) n t else djLs d s (onm O j_ 0) (onm O j_ 1) n) I1) ∧ (∀ c j : Nat, ¬ (q ≤ c ∧ c ≤ q + 22) → ¬ (c = k ∧ j = 0) → I1 c j = I c j) ∧ (∀ c j : Nat, ¬ (q ≤ c ∧ c ≤ q + 22) → L1 c j = L c j)
      | _ => False, rfl, ?_, ⟨?_, ?_, True.intro⟩⟩
  · refine And.intro (zDX hD 0 rfl) ⟨_, sn_V_num.up (by decide), ?_⟩
    refine ⟨k, O, (j : Int), j_, (0 : Int), 0, rfl, hS, hR, hD, (by first | exact (zOM_fr hO (fun c j h => rfl) (fun c j h => rfl)) | (clear hQ; grind [xu])), (by first | exact hG | (clear hQ; grind [xu])), (by omega), ⟨by omega, (by have e : (okd O j_).toNat = 6 := (by omega); rw [e]; decide)⟩, ?_⟩
    intro v3o I3o p3hv p3bhv2 p3bbht p3bbbfr
    refine And.intro (zDX hD 0 rfl) ⟨_, sn_V_num.up (by decide), ?_⟩
    refine ⟨k, O, (j : Int), j_, (1 : Int), 1, rfl, hS, hR, hD, (by first | exact (zOM_fr hO (fun c j h => ((p3bbbfr c j (by omega)).trans rfl)) (fun c j h => rfl)) | (clear hQ; grind [xu])), (by first | exact hG | (clear hQ; grind [xu])), (by omega), ⟨by omega, (by have e : (okd O j_).toNat = 6 := (by omega); rw [e]; decide)⟩, ?_⟩
    intro v11o I11o p11hv p11bhv2 p11bbht p11bbbfr
    refine Exists.intro _ (And.intro (zinl_ok (zT21_35 6)) (And.intro rfl ?_))
    refine And.intro (zDX hD 0 rfl) ⟨_, sn_V_tl.up (by decide), ?_⟩
    refine ⟨k, O, (j : Int), j_, (0 : Int), 0, ((-1) : Int), rfl, hS, hR, hD, (by first | exact (zOM_fr hO (fun c j h => ((p11bbbfr c j (by omega)).trans ((p3bbbfr c j (by omega)).trans rfl))) (fun c j h => rfl)) | (clear hQ; grind [xu])), (by first | exact hG | (clear hQ; grind [xu])), (by omega), ⟨by omega, by decide, (by have e : (okd O j_).toNat = 6 := (by omega); rw [e]; decide)⟩, (by omega), (by omega), ?_⟩
    intro v4_19o I4_19o p4_19hv p4_19bhv2 p4_19bbht p4_19bbbfr
    refine And.intro ⟨(by omega), (zRb rfl)⟩ ⟨fun h27 => ?_, fun h27 => ?_⟩
    · refine And.intro (by omega) ⟨fun h59 => ?_, fun h59 => ?_⟩
      · refine ⟨(2, (41 - (0 : Int).toNat), 0), [some (zvr (165)), some (zvr (k)), some (zvi (j_)), some (zvi (s)), some (zvl (v3o)), none, some (zvl (v11o)), none, some (zvi (otl O j_ 0)), some (zvi ((0 : Int))), some (zvi ((0 : Int))), some (zvi ((0 : Int))), none, none], ⟨rfl, rfl, (congrArg (fun z => some (zvi z)) (by omega)), rfl, rfl, rfl, (congrArg (fun z => some (zvi z)) (by omega)), rfl, rfl, rfl, rfl⟩, 0, 0, v3o, v11o, 0, rfl, rfl, rfl, rfl, rfl, rfl, (by first | (have e : oFr O j_ = 1 := if_pos ⟨by omega, by omega⟩; omega) | (have e : oFr O j_ = 0 := if_neg (fun w => by have w1 := w.1; have w2 := w.2; omega); omega)), (by omega), ⟨p3hv, p11hv⟩, (by clear hQ; grind [xu]), (fun w => by have w1 := w.1; have w2 := w.2; omega), (fun z h1 h2 => by omega), ⟨fun _ => by rw [Nat.sub_self]; rfl, fun _ => rfl⟩, (by clear hQ; grind [xu]), (fun c j h0 => ((p4_19bbbfr c j (by omega)).trans ((p11bbbfr c j (by omega)).trans ((p3bbbfr c j (by omega)).trans rfl))))⟩
      · refine And.intro (zDX hD 0 rfl) ⟨_, sn_V_tt.up (by decide), ?_⟩
        refine ⟨k, O, (j : Int), j_, (0 : Int), 0, (0 : Int), 0, rfl, hS, hR, hD, (by first | exact (zOM_fr hO (fun c j h => ((p4_19bbbfr c j (by omega)).trans ((p11bbbfr c j (by omega)).trans ((p3bbbfr c j (by omega)).trans rfl)))) (fun c j h => rfl)) | (clear hQ; grind [xu])), (by first | exact hG | (clear hQ; grind [xu])), (by omega), ⟨by omega, by decide, (by have e : (okd O j_).toNat = 6 := (by omega); rw [e]; decide)⟩, (by omega), (by omega), ?_⟩
        intro v66o I66o p66hv p66bhv2 p66bbht p66bbbfr
        refine And.intro ⟨(by omega), (zRb rfl)⟩ ⟨fun h71 => ?_, fun h71 => ?_⟩
        · refine ⟨(2, (41 - (0 : Int).toNat), 0), [some (zvr (165)), some (zvr (k)), some (zvi (j_)), some (zvi (s)), some (zvl (v3o)), none, some (zvl (v11o)), none, some (zvi (otl O j_ 0)), some (zvi ((0 : Int))), some (zvi ((0 : Int))), some (zvi ((0 : Int))), none, none], ⟨rfl, rfl, (congrArg (fun z => some (zvi z)) (by omega)), rfl, rfl, rfl, (congrArg (fun z => some (zvi z)) (by omega)), rfl, rfl, rfl, rfl⟩, 0, 0, v3o, v11o, 0, rfl, rfl, rfl, rfl, rfl, rfl, (by first | (have e : oFr O j_ = 1 := if_pos ⟨by omega, by omega⟩; omega) | (have e : oFr O j_ = 0 := if_neg (fun w => by have w1 := w.1; have w2 := w.2; omega); omega)), (by omega), ⟨p3hv, p11hv⟩, (by clear hQ; grind [xu]), (fun w => by have w1 := w.1; have w2 := w.2; omega), (fun z h1 h2 => by omega), ⟨fun _ => by rw [Nat.sub_self]; rfl, fun _ => rfl⟩, (by clear hQ; grind [xu]), (fun c j h0 => ((p66bbbfr c j (by omega)).trans ((p4_19bbbfr c j (by omega)).trans ((p11bbbfr c j (by omega)).trans ((p3bbbfr c j (by omega)).trans rfl)))))⟩
        · refine ⟨(2, (41 - (1 : Int).toNat), 0), [some (zvr (165)), some (zvr (k)), some (zvi (j_)), some (zvi (s)), some (zvl (v3o)), none, some (zvl (v11o)), none, some (zvi (otl O j_ 0)), some (zvi ((1 : Int))), some (zvi ((0 : Int))), some (zvi ((1 : Int))), none, none], ⟨rfl, rfl, (congrArg (fun z => some (zvi z)) (by omega)), rfl, rfl, rfl, (congrArg (fun z => some (zvi z)) (by omega)), rfl, rfl, rfl, rfl⟩, 1, 1, v3o, v11o, 0, rfl, rfl, rfl, rfl, rfl, rfl, (by first | (have e : oFr O j_ = 1 := if_pos ⟨by omega, by omega⟩; omega) | (have e : oFr O j_ = 0 := if_neg (fun w => by have w1 := w.1; have w2 := w.2; omega); omega)), (by omega), ⟨p3hv, p11hv⟩, (by clear hQ; grind [xu]), (fun w => by have w1 := w.1; have w2 := w.2; omega), (fun z h1 h2 => by omega), ⟨fun _ => by rw [Nat.sub_self]; rfl, fun _ => rfl⟩, (by clear hQ; grind [xu]), (fun c j h0 => ((p66bbbfr c j (by omega)).trans ((p4_19bbbfr c j (by omega)).trans ((p11bbbfr c j (by omega)).trans ((p3bbbfr c j (by omega)).trans rfl)))))⟩
    · refine And.intro (zDX hD 0 rfl) ⟨_, sn_V_tt.up (by decide), ?_⟩
      refine ⟨k, O, (j : Int), j_, (0 : Int), 0, (0 : Int), 0, rfl, hS, hR, hD, (by first | exact (zOM_fr hO (fun c j h => ((p4_19bbbfr c j (by omega)).trans ((p11bbbfr c j (by omega)).trans ((p3bbbfr c j (by omega)).trans rfl)))) (fun c j h => rfl)) | (clear hQ; grind [xu])), (by first | exact hG | (clear hQ; grind [xu])), (by omega), ⟨by omega, by decide, (by have e : (okd O j_).toNat = 6 := (by omega); rw [e]; decide)⟩, (by omega), (by omega), ?_⟩
      intro v34o I34o p34hv p34bhv2 p34bbht p34bbbfr
      refine And.intro ⟨(by omega), (zRb rfl)⟩ ⟨fun h39 => ?_, fun h39 => ?_⟩
      · refine And.intro (by omega) ⟨(fun h59 => False.elim (by omega)), fun h59 => ?_⟩
        refine And.intro (zDX hD 0 rfl) ⟨_, sn_V_tt.up (by decide), ?_⟩
        refine ⟨k, O, (j : Int), j_, (0 : Int), 0, (0 : Int), 0, rfl, hS, hR, hD, (by first | exact (zOM_fr hO (fun c j h => ((p34bbbfr c j (by omega)).trans ((p4_19bbbfr c j (by omega)).trans ((p11bbbfr c j (by omega)).trans ((p3bbbfr c j (by omega)).trans rfl))))) (fun c j h => rfl)) | (clear hQ; grind [xu])), (by first | exact hG | (clear hQ; grind [xu])), (by omega), ⟨by omega, by decide, (by have e : (okd O j_).toNat = 6 := (by omega); rw [e]; decide)⟩, (by omega), (by omega), ?_⟩
        intro v66o I66o p66hv p66bhv2 p66bbht p66bbbfr
        refine And.intro ⟨(by omega), (zRb rfl)⟩ ⟨fun h71 => ?_, fun h71 => ?_⟩
        · refine ⟨(2, (41 - (0 : Int).toNat), 0), [some (zvr (165)), some (zvr (k)), some (zvi (j_)), some (zvi (s)), some (zvl (v3o)), none, some (zvl (v11o)), none, some (zvi (otl O j_ 0)), some (zvi ((0 : Int))), some (zvi ((0 : Int))), some (zvi ((0 : Int))), none, none], ⟨rfl, rfl, (congrArg (fun z => some (zvi z)) (by omega)), rfl, rfl, rfl, (congrArg (fun z => some (zvi z)) (by omega)), rfl, rfl, rfl, rfl⟩, 0, 0, v3o, v11o, 0, rfl, rfl, rfl, rfl, rfl, rfl, (by first | (have e : oFr O j_ = 1 := if_pos ⟨by omega, by omega⟩; omega) | (have e : oFr O j_ = 0 := if_neg (fun w => by have w1 := w.1; have w2 := w.2; omega); omega)), (by omega), ⟨p3hv, p11hv⟩, (by clear hQ; grind [xu]), (fun w => by have w1 := w.1; have w2 := w.2; omega), (fun z h1 h2 => by omega), ⟨fun _ => by rw [Nat.sub_self]; rfl, fun _ => rfl⟩, (by clear hQ; grind [xu]), (fun c j h0 => ((p66bbbfr c j (by omega)).trans ((p34bbbfr c j (by omega)).trans ((p4_19bbbfr c j (by omega)).trans ((p11bbbfr c j (by omega)).trans ((p3bbbfr c j (by omega)).trans rfl))))))⟩
        · refine ⟨(2, (41 - (1 : Int).toNat), 0), [some (zvr (165)), some (zvr (k)), some (zvi (j_)), some (zvi (s)), some (zvl (v3o)), none, some (zvl (v11o)), none, some (zvi (otl O j_ 0)), some (zvi ((1 : Int))), some (zvi ((0 : Int))), some (zvi ((1 : Int))), none, none], ⟨rfl, rfl, (congrArg (fun z => some (zvi z)) (by omega)), rfl, rfl, rfl, (congrArg (fun z => some (zvi z)) (by omega)), rfl, rfl, rfl, rfl⟩, 1, 1, v3o, v11o, 0, rfl, rfl, rfl, rfl, rfl, rfl, (by first | (have e : oFr O j_ = 1 := if_pos ⟨by omega, by omega⟩; omega) | (have e : oFr O j_ = 0 := if_neg (fun w => by have w1 := w.1; have w2 := w.2; omega); omega)), (by omega), ⟨p3hv, p11hv⟩, (by clear hQ; grind [xu]), (fun w => by have w1 := w.1; have w2 := w.2; omega), (fun z h1 h2 => by omega), ⟨fun _ => by rw [Nat.sub_self]; rfl, fun _ => rfl⟩, (by clear hQ; grind [xu]), (fun c j h0 => ((p66bbbfr c j (by omega)).trans ((p34bbbfr c j (by omega)).trans ((p4_19bbbfr c j (by omega)).trans ((p11bbbfr c j (by omega)).trans ((p3bbbfr c j (by omega)).trans rfl))))))⟩
      · refine And.intro (zA_165 hS) (zrdR (v := some q) hdq ?_)
        refine And.intro (zDX hDq 0 rfl) ⟨_, sn_J_junc.up (by decide), ?_⟩
        refine ⟨q, d, (s : Int), (v3o : Int), (v11o : Int), rfl, hDq, (by first | exact (zNJ_fr hNJ (fun c j h => ((p34bbbfr c j (by omega)).trans ((p4_19bbbfr c j (by omega)).trans ((p11bbbfr c j (by omega)).trans ((p3bbbfr c j (by omega)).trans rfl))))) (fun c j h => rfl)) | (clear hQ; grind [xu])), hjg, hs, ⟨jFar_2 (by omega), jFar_2 (by omega)⟩, ?_⟩
        intro v51o I51o L51o p51hNJ2 p51bhJG2 p51bbhJN2 p51bbbfr p51bbbbfrL
        refine hQ _ _ ?_ ?_ (fun c j h0 h1 => ((p51bbbfr c j (by omega) (by omega) (by omega) (by omega) (by omega) (by omega) (by omega) (by omega) (by omega) (by omega) (by omega)).trans ((p34bbbfr c j (by omega)).trans ((p4_19bbbfr c j (by omega)).trans ((p11bbbfr c j (by omega)).trans ((p3bbbfr c j (by omega)).trans rfl)))))) (fun c j h0 => ((p51bbbbfrL c j (by omega)).trans rfl))
        · first
          | (rw [(oNt_0 hpl ((oNm_e hfr).symm.trans (oNi_n (fun w => by first | (have w1 := w.1; omega) | (have w2 := w.2 i.toNat (by omega) (by omega); have w3 := w2.1; have w4 := w2.2; omega))).symm))]
             exact (zNJ_fr hNJ (fun c j h => ((p51bbbfr c j (by omega) (by omega) (by omega) (by omega) (by omega) (by omega) (by omega) (by omega) (by omega) (by omega) (by omega)).trans ((p34bbbfr c j (by omega)).trans ((p4_19bbbfr c j (by omega)).trans ((p11bbbfr c j (by omega)).trans ((p3bbbfr c j (by omega)).trans rfl)))))) (fun c j h => ((p51bbbbfrL c j (by omega)).trans rfl))))
          | (rw [oNt_p ⟨by omega, by omega⟩, ← p3hv, ← p11hv]
             exact p51hNJ2)
          | (by_cases cc_ : dnl d < 60 ∧ a = 1
             · rw [if_pos cc_] at hNJ1
               rw [if_pos cc_.1] at hl
               rw [oPd_e hpl (by omega) ⟨cc_.1, by omega⟩, ← hnm.1]
               obtain rfl : t = dns d := (by omega)
               exact hNJ1
             · rw [if_neg cc_] at hNJ1
               rw [oNt_l hpl (by omega) (fun w => cc_ ⟨w.1, by omega⟩), ← hnm.1]
               exact hNJ1)
        · first
          | (rw [(oNt_0 hpl ((oNm_e hfr).symm.trans (oNi_n (fun w => by first | (have w1 := w.1; omega) | (have w2 := w.2 i.toNat (by omega) (by omega); have w3 := w2.1; have w4 := w2.2; omega))).symm))]
             exact (zJN_fr hJN (fun c j h => ((p51bbbfr c j (by omega) (by omega) (by omega) (by omega) (by omega) (by omega) (by omega) (by omega) (by omega) (by omega) (by omega)).trans ((p34bbbfr c j (by omega)).trans ((p4_19bbbfr c j (by omega)).trans ((p11bbbfr c j (by omega)).trans ((p3bbbfr c j (by omega)).trans rfl))))))))
          | (rw [oNt_p ⟨by omega, by omega⟩, ← p3hv, ← p11hv]
             exact (p51bbhJN2 (zJN_fr hJN (fun c j h => ((p34bbbfr c j (by omega)).trans ((p4_19bbbfr c j (by omega)).trans ((p11bbbfr c j (by omega)).trans (p3bbbfr c j (by omega)))))))))
          | (by_cases cc_ : dnl d < 60 ∧ a = 1
             · rw [if_pos cc_] at hJN1
               rw [if_pos cc_.1] at hl
               rw [oPd_e hpl (by omega) ⟨cc_.1, by omega⟩, ← hnm.1]
               obtain rfl : t = dns d := (by omega)
               exact hJN1
             · rw [if_neg cc_] at hJN1
               rw [oNt_l hpl (by omega) (fun w => cc_ ⟨w.1, by omega⟩), ← hnm.1]
               exact hJN1)
  · rintro nM lsM stM I1 L1 R1 S1 hz1 ⟨a, i, x, y, n, rfl, rfl, rfl, rfl, rfl, rfl, ha, hi, hx, hxb, hpl, hdg, hn, hnb, fr⟩
    have hfr : oFr O j_ = a.toNat := (by omega)
    refine And.intro ⟨(by omega), (by omega)⟩ ⟨fun h92 => ?_, fun h92 => ?_⟩
    · refine And.intro ⟨(by omega), (zRb rfl)⟩ ⟨fun h158 => ?_, fun h158 => ?_⟩
      · refine hQ _ _ ?_ ?_ (fun c j h0 h1 => ((fr c j (by omega)).trans rfl)) (fun c j h0 => rfl)
        · first
          | (rw [(oNt_0 hpl ((oNm_e hfr).symm.trans (oNi_n (fun w => by first | (have w1 := w.1; omega) | (have w2 := w.2 i.toNat (by omega) (by omega); have w3 := w2.1; have w4 := w2.2; omega))).symm))]
             exact (zNJ_fr hNJ (fun c j h => ((fr c j (by omega)).trans rfl)) (fun c j h => rfl)))
          | (rw [oNt_p ⟨by omega, by omega⟩, ← p3hv, ← p11hv]
             exact p51hNJ2)
          | (by_cases cc_ : dnl d < 60 ∧ a = 1
             · rw [if_pos cc_] at hNJ1
               rw [if_pos cc_.1] at hl
               rw [oPd_e hpl (by omega) ⟨cc_.1, by omega⟩, ← hnm.1]
               obtain rfl : t = dns d := (by omega)
               exact hNJ1
             · rw [if_neg cc_] at hNJ1
               rw [oNt_l hpl (by omega) (fun w => cc_ ⟨w.1, by omega⟩), ← hnm.1]
               exact hNJ1)
        · first
          | (rw [(oNt_0 hpl ((oNm_e hfr).symm.trans (oNi_n (fun w => by first | (have w1 := w.1; omega) | (have w2 := w.2 i.toNat (by omega) (by omega); have w3 := w2.1; have w4 := w2.2; omega))).symm))]
             exact (zJN_fr hJN (fun c j h => ((fr c j (by omega)).trans rfl))))
          | (rw [oNt_p ⟨by omega, by omega⟩, ← p3hv, ← p11hv]
             exact (p51bbhJN2 (zJN_fr hJN (fun c j h => ((p34bbbfr c j (by omega)).trans ((p4_19bbbfr c j (by omega)).trans ((p11bbbfr c j (by omega)).trans (p3bbbfr c j (by omega)))))))))
          | (by_cases cc_ : dnl d < 60 ∧ a = 1
             · rw [if_pos cc_] at hJN1
               rw [if_pos cc_.1] at hl
               rw [oPd_e hpl (by omega) ⟨cc_.1, by omega⟩, ← hnm.1]
               obtain rfl : t = dns d := (by omega)
               exact hJN1
             · rw [if_neg cc_] at hJN1
               rw [oNt_l hpl (by omega) (fun w => cc_ ⟨w.1, by omega⟩), ← hnm.1]
               exact hJN1)
      · refine And.intro ⟨(by omega), (zRb rfl)⟩ ⟨fun h167 => ?_, fun h167 => ?_⟩
        · refine And.intro (zA_165 hS) (zrdR (v := some q) hdq ?_)
          refine And.intro (zDX hDq 0 rfl) ⟨_, sn_J_label.up (by decide), ?_⟩
          refine ⟨q, d, (s : Int), (x : Int), (y : Int), (n : Int), rfl, hDq, (by first | exact (zNJ_fr hNJ (fun c j h => ((fr c j (by omega)).trans rfl)) (fun c j h => rfl)) | (clear hQ; grind [xu])), hjg, hs, ⟨jFar_2 (by omega), jFar_2 (by omega)⟩, (by omega), ?_⟩
          intro v182o I182o L182o p182hv p182bhNJ2 p182bbhJG2 p182bbbhJN2 p182bbbbfr p182bbbbbfrL
          refine ⟨(1, (17 - (0 : Nat)), 0), zlt6 (by omega), [some (zvr (165)), none, none, some (zvi (s)), none, none, none, none, none, some (zvi (a)), some (zvi (n)), some (zvi (v182o)), some (zvi ((0 : Nat))), none], ⟨rfl, rfl, rfl, rfl, rfl, rfl, rfl⟩, a, 0, n, v182o, rfl, rfl, rfl, rfl, rfl, (by omega), (by omega), p182hv, ?_, hpl, ?_, ?_, (fun c j h0 h1 => ((p182bbbbfr c j (by omega) (by omega) (by omega) (by omega) (by omega) (by omega) (by omega) (by omega) (by omega) (by omega) (by omega) (by omega)).trans ((fr c j (by omega)).trans rfl))), (fun c j h0 => ((p182bbbbbfrL c j (by omega)).trans rfl))⟩
          · have e1 := hn.1 (by omega)
            rw [show i.toNat = otl O j_ 0 by omega] at e1
            exact ⟨e1.trans ((oNi_y ⟨by omega, fun z h1 h2 => hdg z (by omega) (by omega)⟩).trans (oNm_e hfr)), by omega, by omega⟩
          · rw [← hx.1, ← hx.2]
            by_cases cc_ : dnl d < 60 ∧ a = 1
            · rw [if_pos cc_]
              exact p182bhNJ2
            · rw [if_neg cc_]
              exact p182bhNJ2
          · rw [← hx.1, ← hx.2]
            by_cases cc_ : dnl d < 60 ∧ a = 1
            · rw [if_pos cc_]
              exact (p182bbbhJN2 (zJN_fr hJN (fun c j h => fr c j (by omega))))
            · rw [if_neg cc_]
              exact (p182bbbhJN2 (zJN_fr hJN (fun c j h => fr c j (by omega))))
        · refine hQ _ _ ?_ ?_ (fun c j h0 h1 => ((fr c j (by omega)).trans rfl)) (fun c j h0 => rfl)
          · first
            | (rw [(oNt_0 hpl ((oNm_e hfr).symm.trans (oNi_n (fun w => by first | (have w1 := w.1; omega) | (have w2 := w.2 i.toNat (by omega) (by omega); have w3 := w2.1; have w4 := w2.2; omega))).symm))]
               exact (zNJ_fr hNJ (fun c j h => ((fr c j (by omega)).trans rfl)) (fun c j h => rfl)))
            | (rw [oNt_p ⟨by omega, by omega⟩, ← p3hv, ← p11hv]
               exact p51hNJ2)
            | (by_cases cc_ : dnl d < 60 ∧ a = 1
               · rw [if_pos cc_] at hNJ1
                 rw [if_pos cc_.1] at hl
                 rw [oPd_e hpl (by omega) ⟨cc_.1, by omega⟩, ← hnm.1]
                 obtain rfl : t = dns d := (by omega)
                 exact hNJ1
               · rw [if_neg cc_] at hNJ1
                 rw [oNt_l hpl (by omega) (fun w => cc_ ⟨w.1, by omega⟩), ← hnm.1]
                 exact hNJ1)
          · first
            | (rw [(oNt_0 hpl ((oNm_e hfr).symm.trans (oNi_n (fun w => by first | (have w1 := w.1; omega) | (have w2 := w.2 i.toNat (by omega) (by omega); have w3 := w2.1; have w4 := w2.2; omega))).symm))]
               exact (zJN_fr hJN (fun c j h => ((fr c j (by omega)).trans rfl))))
            | (rw [oNt_p ⟨by omega, by omega⟩, ← p3hv, ← p11hv]
               exact (p51bbhJN2 (zJN_fr hJN (fun c j h => ((p34bbbfr c j (by omega)).trans ((p4_19bbbfr c j (by omega)).trans ((p11bbbfr c j (by omega)).trans (p3bbbfr c j (by omega)))))))))
            | (by_cases cc_ : dnl d < 60 ∧ a = 1
               · rw [if_pos cc_] at hJN1
                 rw [if_pos cc_.1] at hl
                 rw [oPd_e hpl (by omega) ⟨cc_.1, by omega⟩, ← hnm.1]
                 obtain rfl : t = dns d := (by omega)
                 exact hJN1
               · rw [if_neg cc_] at hJN1
                 rw [oNt_l hpl (by omega) (fun w => cc_ ⟨w.1, by omega⟩), ← hnm.1]
                 exact hJN1)
    · refine And.intro (zDX hD 0 rfl) ⟨_, sn_V_tt.up (by decide), ?_⟩
      refine ⟨k, O, (j_ : Int), j_, (0 : Int), 0, (i : Int), i.toNat, rfl, hS, hR, hD, (by first | exact (zOM_fr hO (fun c j h => ((fr c j (by omega)).trans rfl)) (fun c j h => rfl)) | (clear hQ; grind [xu])), (by first | exact hG | (clear hQ; grind [xu])), (by omega), ⟨by omega, by decide, (by have e : (okd O j_).toNat = 6 := (by omega); rw [e]; decide)⟩, (by omega), (by omega), ?_⟩
      intro v100o I100o p100hv p100bhv2 p100bbht p100bbbfr
      refine And.intro ⟨(by omega), (zRb rfl)⟩ ⟨fun h109 => ?_, fun h109 => ?_⟩
      · refine hQ _ _ ?_ ?_ (fun c j h0 h1 => ((p100bbbfr c j (by omega)).trans ((fr c j (by omega)).trans rfl))) (fun c j h0 => rfl)
        · first
          | (rw [(oNt_0 hpl ((oNm_e hfr).symm.trans (oNi_n (fun w => by first | (have w1 := w.1; omega) | (have w2 := w.2 i.toNat (by omega) (by omega); have w3 := w2.1; have w4 := w2.2; omega))).symm))]
             exact (zNJ_fr hNJ (fun c j h => ((p100bbbfr c j (by omega)).trans ((fr c j (by omega)).trans rfl))) (fun c j h => rfl)))
          | (rw [oNt_p ⟨by omega, by omega⟩, ← p3hv, ← p11hv]
             exact p51hNJ2)
          | (by_cases cc_ : dnl d < 60 ∧ a = 1
             · rw [if_pos cc_] at hNJ1
               rw [if_pos cc_.1] at hl
               rw [oPd_e hpl (by omega) ⟨cc_.1, by omega⟩, ← hnm.1]
               obtain rfl : t = dns d := (by omega)
               exact hNJ1
             · rw [if_neg cc_] at hNJ1
               rw [oNt_l hpl (by omega) (fun w => cc_ ⟨w.1, by omega⟩), ← hnm.1]
               exact hNJ1)
        · first
          | (rw [(oNt_0 hpl ((oNm_e hfr).symm.trans (oNi_n (fun w => by first | (have w1 := w.1; omega) | (have w2 := w.2 i.toNat (by omega) (by omega); have w3 := w2.1; have w4 := w2.2; omega))).symm))]
             exact (zJN_fr hJN (fun c j h => ((p100bbbfr c j (by omega)).trans ((fr c j (by omega)).trans rfl)))))
          | (rw [oNt_p ⟨by omega, by omega⟩, ← p3hv, ← p11hv]
             exact (p51bbhJN2 (zJN_fr hJN (fun c j h => ((p34bbbfr c j (by omega)).trans ((p4_19bbbfr c j (by omega)).trans ((p11bbbfr c j (by omega)).trans (p3bbbfr c j (by omega)))))))))
          | (by_cases cc_ : dnl d < 60 ∧ a = 1
             · rw [if_pos cc_] at hJN1
               rw [if_pos cc_.1] at hl
               rw [oPd_e hpl (by omega) ⟨cc_.1, by omega⟩, ← hnm.1]
               obtain rfl : t = dns d := (by omega)
               exact hJN1
             · rw [if_neg cc_] at hJN1
               rw [oNt_l hpl (by omega) (fun w => cc_ ⟨w.1, by omega⟩), ← hnm.1]
               exact hJN1)
      · refine And.intro ⟨(by omega), (zRb rfl)⟩ ⟨fun h116 => ?_, fun h116 => ?_⟩
        · refine And.intro ⟨(by omega), (zRb rfl)⟩ ⟨fun h126 => ?_, fun h126 => ?_⟩
          · refine ⟨(2, (41 - (i + 1).toNat), 0), zlt6 (by omega), [some (zvr (165)), some (zvr (k)), some (zvi (j_)), some (zvi (s)), some (zvl (x)), none, some (zvl (y)), none, some (zvi (otl O j_ 0)), some (zvi (a)), some (zvi ((((10 * n) + v100o) - 48))), some (zvi ((i + 1))), none, none], ⟨rfl, rfl, rfl, rfl, rfl, rfl, rfl, rfl, rfl, rfl, rfl⟩, a, (i + 1), x, y, (((10 * n) + v100o) - 48), rfl, rfl, rfl, rfl, rfl, rfl, (by omega), (by omega), hx, (by first | exact hxb | (clear hQ; grind [xu])), hpl, ?_, ?_, (by first | exact hnb | (clear hQ; grind [xu])), (fun c j h0 => ((p100bbbfr c j (by omega)).trans ((fr c j (by omega)).trans rfl)))⟩
            · intro z h1 h2
              by_cases e : z = i.toNat
              · rw [e]
                exact ⟨by omega, by omega⟩
              · exact hdg z h1 (by omega)
            · refine ⟨fun h => ?_, fun h => ?_⟩
              · first
                | (have w := hn.1 (by omega)
                   rw [show (i + 1).toNat - a.toNat = (i.toNat - a.toNat) + 1 by omega]
                   have e : oVl O j_ a.toNat (i.toNat - a.toNat + 1) = 10 * oVl O j_ a.toNat (i.toNat - a.toNat) + otc O j_ 0 (a.toNat + (i.toNat - a.toNat)) - 48 := rfl
                   rw [e, show a.toNat + (i.toNat - a.toNat) = i.toNat by omega]
                   omega)
                | (exfalso; omega)
              · first
                | rfl
                | (exfalso; omega)
          · refine ⟨(2, (41 - (i + 1).toNat), 0), zlt6 (by omega), [some (zvr (165)), some (zvr (k)), some (zvi (j_)), some (zvi (s)), some (zvl (x)), none, some (zvl (y)), none, some (zvi (otl O j_ 0)), some (zvi (a)), some (zvi ((0 : Int))), some (zvi ((i + 1))), none, none], ⟨rfl, rfl, rfl, rfl, rfl, rfl, rfl, rfl, rfl, rfl, rfl⟩, a, (i + 1), x, y, 0, rfl, rfl, rfl, rfl, rfl, rfl, (by omega), (by omega), hx, (by first | exact hxb | (clear hQ; grind [xu])), hpl, ?_, ?_, (by first | exact hnb | (clear hQ; grind [xu])), (fun c j h0 => ((p100bbbfr c j (by omega)).trans ((fr c j (by omega)).trans rfl)))⟩
            · intro z h1 h2
              by_cases e : z = i.toNat
              · rw [e]
                exact ⟨by omega, by omega⟩
              · exact hdg z h1 (by omega)
            · refine ⟨fun h => ?_, fun h => ?_⟩
              · first
                | (have w := hn.1 (by omega)
                   rw [show (i + 1).toNat - a.toNat = (i.toNat - a.toNat) + 1 by omega]
                   have e : oVl O j_ a.toNat (i.toNat - a.toNat + 1) = 10 * oVl O j_ a.toNat (i.toNat - a.toNat) + otc O j_ 0 (a.toNat + (i.toNat - a.toNat)) - 48 := rfl
                   rw [e, show a.toNat + (i.toNat - a.toNat) = i.toNat by omega]
                   omega)
                | (exfalso; omega)
              · first
                | rfl
                | (exfalso; omega)
        · refine hQ _ _ ?_ ?_ (fun c j h0 h1 => ((p100bbbfr c j (by omega)).trans ((fr c j (by omega)).trans rfl))) (fun c j h0 => rfl)
          · first
            | (rw [(oNt_0 hpl ((oNm_e hfr).symm.trans (oNi_n (fun w => by first | (have w1 := w.1; omega) | (have w2 := w.2 i.toNat (by omega) (by omega); have w3 := w2.1; have w4 := w2.2; omega))).symm))]
               exact (zNJ_fr hNJ (fun c j h => ((p100bbbfr c j (by omega)).trans ((fr c j (by omega)).trans rfl))) (fun c j h => rfl)))
            | (rw [oNt_p ⟨by omega, by omega⟩, ← p3hv, ← p11hv]
               exact p51hNJ2)
            | (by_cases cc_ : dnl d < 60 ∧ a = 1
               · rw [if_pos cc_] at hNJ1
                 rw [if_pos cc_.1] at hl
                 rw [oPd_e hpl (by omega) ⟨cc_.1, by omega⟩, ← hnm.1]
                 obtain rfl : t = dns d := (by omega)
                 exact hNJ1
               · rw [if_neg cc_] at hNJ1
                 rw [oNt_l hpl (by omega) (fun w => cc_ ⟨w.1, by omega⟩), ← hnm.1]
                 exact hNJ1)
          · first
            | (rw [(oNt_0 hpl ((oNm_e hfr).symm.trans (oNi_n (fun w => by first | (have w1 := w.1; omega) | (have w2 := w.2 i.toNat (by omega) (by omega); have w3 := w2.1; have w4 := w2.2; omega))).symm))]
               exact (zJN_fr hJN (fun c j h => ((p100bbbfr c j (by omega)).trans ((fr c j (by omega)).trans rfl)))))
            | (rw [oNt_p ⟨by omega, by omega⟩, ← p3hv, ← p11hv]
               exact (p51bbhJN2 (zJN_fr hJN (fun c j h => ((p34bbbfr c j (by omega)).trans ((p4_19bbbfr c j (by omega)).trans ((p11bbbfr c j (by omega)).trans (p3bbbfr c j (by omega)))))))))
            | (by_cases cc_ : dnl d < 60 ∧ a = 1
               · rw [if_pos cc_] at hJN1
                 rw [if_pos cc_.1] at hl
                 rw [oPd_e hpl (by omega) ⟨cc_.1, by omega⟩, ← hnm.1]
                 obtain rfl : t = dns d := (by omega)
                 exact hJN1
               · rw [if_neg cc_] at hJN1
                 rw [oNt_l hpl (by omega) (fun w => cc_ ⟨w.1, by omega⟩), ← hnm.1]
                 exact hJN1)
  · rintro nM lsM stM I1 L1 R1 S1 hz1 ⟨a, t, n, l, rfl, rfl, rfl, rfl, rfl, ha, ht, hl, hnm, hpl, hNJ1, hJN1, fr, frL⟩
    have sq := oPd_q (d := d) (s := s) (x := onm O j_ 0) (y := onm O j_ 1) (n := n) t
    have hfr : oFr O j_ = a.toNat := (by omega)
    refine And.intro (zA_165 hS) (fun v193 e193 r193 => ?_)
    have f193 : v193 = dns d := (e193.trans ((fr 165 11 (by omega) (by omega)).trans m1))
    refine And.intro ⟨(by omega), r193⟩ ⟨fun h196 => ?_, fun h196 => ?_⟩
    · refine hQ _ _ ?_ ?_ (fun c j h0 h1 => ((fr c j (by omega) (by omega)).trans rfl)) (fun c j h0 => ((frL c j (by omega)).trans rfl))
      · first
        | (rw [(oNt_0 hpl ((oNm_e hfr).symm.trans (oNi_n (fun w => by first | (have w1 := w.1; omega) | (have w2 := w.2 i.toNat (by omega) (by omega); have w3 := w2.1; have w4 := w2.2; omega))).symm))]
           exact (zNJ_fr hNJ (fun c j h => ((fr c j (by omega) (by omega)).trans rfl)) (fun c j h => ((frL c j (by omega)).trans rfl))))
        | (rw [oNt_p ⟨by omega, by omega⟩, ← p3hv, ← p11hv]
           exact p51hNJ2)
        | (by_cases cc_ : dnl d < 60 ∧ a = 1
           · rw [if_pos cc_] at hNJ1
             rw [if_pos cc_.1] at hl
             rw [oPd_e hpl (by omega) ⟨cc_.1, by omega⟩, ← hnm.1]
             obtain rfl : t = dns d := (by omega)
             exact hNJ1
           · rw [if_neg cc_] at hNJ1
             rw [oNt_l hpl (by omega) (fun w => cc_ ⟨w.1, by omega⟩), ← hnm.1]
             exact hNJ1)
      · first
        | (rw [(oNt_0 hpl ((oNm_e hfr).symm.trans (oNi_n (fun w => by first | (have w1 := w.1; omega) | (have w2 := w.2 i.toNat (by omega) (by omega); have w3 := w2.1; have w4 := w2.2; omega))).symm))]
           exact (zJN_fr hJN (fun c j h => ((fr c j (by omega) (by omega)).trans rfl))))
        | (rw [oNt_p ⟨by omega, by omega⟩, ← p3hv, ← p11hv]
           exact (p51bbhJN2 (zJN_fr hJN (fun c j h => ((p34bbbfr c j (by omega)).trans ((p4_19bbbfr c j (by omega)).trans ((p11bbbfr c j (by omega)).trans (p3bbbfr c j (by omega)))))))))
        | (by_cases cc_ : dnl d < 60 ∧ a = 1
           · rw [if_pos cc_] at hJN1
             rw [if_pos cc_.1] at hl
             rw [oPd_e hpl (by omega) ⟨cc_.1, by omega⟩, ← hnm.1]
             obtain rfl : t = dns d := (by omega)
             exact hJN1
           · rw [if_neg cc_] at hJN1
             rw [oNt_l hpl (by omega) (fun w => cc_ ⟨w.1, by omega⟩), ← hnm.1]
             exact hJN1)
    · refine And.intro ⟨(by omega), (zRb rfl)⟩ ⟨fun h202 => ?_, fun h202 => ?_⟩
      · refine hQ _ _ ?_ ?_ (fun c j h0 h1 => ((fr c j (by omega) (by omega)).trans rfl)) (fun c j h0 => ((frL c j (by omega)).trans rfl))
        · first
          | (rw [(oNt_0 hpl ((oNm_e hfr).symm.trans (oNi_n (fun w => by first | (have w1 := w.1; omega) | (have w2 := w.2 i.toNat (by omega) (by omega); have w3 := w2.1; have w4 := w2.2; omega))).symm))]
             exact (zNJ_fr hNJ (fun c j h => ((fr c j (by omega) (by omega)).trans rfl)) (fun c j h => ((frL c j (by omega)).trans rfl))))
          | (rw [oNt_p ⟨by omega, by omega⟩, ← p3hv, ← p11hv]
             exact p51hNJ2)
          | (by_cases cc_ : dnl d < 60 ∧ a = 1
             · rw [if_pos cc_] at hNJ1
               rw [if_pos cc_.1] at hl
               rw [oPd_e hpl (by omega) ⟨cc_.1, by omega⟩, ← hnm.1]
               obtain rfl : t = dns d := (by omega)
               exact hNJ1
             · rw [if_neg cc_] at hNJ1
               rw [oNt_l hpl (by omega) (fun w => cc_ ⟨w.1, by omega⟩), ← hnm.1]
               exact hNJ1)
        · first
          | (rw [(oNt_0 hpl ((oNm_e hfr).symm.trans (oNi_n (fun w => by first | (have w1 := w.1; omega) | (have w2 := w.2 i.toNat (by omega) (by omega); have w3 := w2.1; have w4 := w2.2; omega))).symm))]
             exact (zJN_fr hJN (fun c j h => ((fr c j (by omega) (by omega)).trans rfl))))
          | (rw [oNt_p ⟨by omega, by omega⟩, ← p3hv, ← p11hv]
             exact (p51bbhJN2 (zJN_fr hJN (fun c j h => ((p34bbbfr c j (by omega)).trans ((p4_19bbbfr c j (by omega)).trans ((p11bbbfr c j (by omega)).trans (p3bbbfr c j (by omega)))))))))
          | (by_cases cc_ : dnl d < 60 ∧ a = 1
             · rw [if_pos cc_] at hJN1
               rw [if_pos cc_.1] at hl
               rw [oPd_e hpl (by omega) ⟨cc_.1, by omega⟩, ← hnm.1]
               obtain rfl : t = dns d := (by omega)
               exact hJN1
             · rw [if_neg cc_] at hJN1
               rw [oNt_l hpl (by omega) (fun w => cc_ ⟨w.1, by omega⟩), ← hnm.1]
               exact hJN1)
      · have t202 : dnl d + 1 ≤ 60 ∧ l = dnl d := (by by_cases e : dnl d < 60; (rw [if_pos e] at hl; omega); (rw [if_neg e] at hl; omega))
        refine And.intro ⟨(by omega), (zRb rfl)⟩ ⟨fun h208 => ?_, fun h208 => ?_⟩
        · refine hQ _ _ ?_ ?_ (fun c j h0 h1 => ((fr c j (by omega) (by omega)).trans rfl)) (fun c j h0 => ((frL c j (by omega)).trans rfl))
          · first
            | (rw [(oNt_0 hpl ((oNm_e hfr).symm.trans (oNi_n (fun w => by first | (have w1 := w.1; omega) | (have w2 := w.2 i.toNat (by omega) (by omega); have w3 := w2.1; have w4 := w2.2; omega))).symm))]
               exact (zNJ_fr hNJ (fun c j h => ((fr c j (by omega) (by omega)).trans rfl)) (fun c j h => ((frL c j (by omega)).trans rfl))))
            | (rw [oNt_p ⟨by omega, by omega⟩, ← p3hv, ← p11hv]
               exact p51hNJ2)
            | (by_cases cc_ : dnl d < 60 ∧ a = 1
               · rw [if_pos cc_] at hNJ1
                 rw [if_pos cc_.1] at hl
                 rw [oPd_e hpl (by omega) ⟨cc_.1, by omega⟩, ← hnm.1]
                 obtain rfl : t = dns d := (by omega)
                 exact hNJ1
               · rw [if_neg cc_] at hNJ1
                 rw [oNt_l hpl (by omega) (fun w => cc_ ⟨w.1, by omega⟩), ← hnm.1]
                 exact hNJ1)
          · first
            | (rw [(oNt_0 hpl ((oNm_e hfr).symm.trans (oNi_n (fun w => by first | (have w1 := w.1; omega) | (have w2 := w.2 i.toNat (by omega) (by omega); have w3 := w2.1; have w4 := w2.2; omega))).symm))]
               exact (zJN_fr hJN (fun c j h => ((fr c j (by omega) (by omega)).trans rfl))))
            | (rw [oNt_p ⟨by omega, by omega⟩, ← p3hv, ← p11hv]
               exact (p51bbhJN2 (zJN_fr hJN (fun c j h => ((p34bbbfr c j (by omega)).trans ((p4_19bbbfr c j (by omega)).trans ((p11bbbfr c j (by omega)).trans (p3bbbfr c j (by omega)))))))))
            | (by_cases cc_ : dnl d < 60 ∧ a = 1
               · rw [if_pos cc_] at hJN1
                 rw [if_pos cc_.1] at hl
                 rw [oPd_e hpl (by omega) ⟨cc_.1, by omega⟩, ← hnm.1]
                 obtain rfl : t = dns d := (by omega)
                 exact hJN1
               · rw [if_neg cc_] at hJN1
                 rw [oNt_l hpl (by omega) (fun w => cc_ ⟨w.1, by omega⟩), ← hnm.1]
                 exact hJN1)
        · refine And.intro ⟨(by omega), (by omega)⟩ ⟨fun h214 => ?_, fun h214 => ?_⟩
          · refine And.intro (zA_165 hS) (zrdR (v := some 196) (zR_165_10 hR) ?_)
            refine And.intro (zP_196 hS (by omega) (by omega)) (fun v234 e234 r234 => ?_)
            have f234 : v234 = dpr d t := (e234.trans ((congrArg (I1 196) (by omega)).trans ((fr 196 _ (by omega) (by omega)).trans (m3 t (by omega)).1)))
            have f234b : -1 ≤ v234 := (by have w := gs t (by omega); omega)
            refine And.intro ⟨r234, (zRb rfl)⟩ ⟨fun h236 => ?_, fun h236 => ?_⟩
            · refine ⟨(1, (17 - (t + 1)), 0), zlt6 (by omega), [some (zvr (165)), none, none, some (zvi (s)), none, none, none, none, none, some (zvi (a)), some (zvi (n)), some (zvi (l)), some (zvi ((t + 1))), none], ⟨rfl, rfl, rfl, rfl, rfl, rfl, rfl⟩, a, (t + 1), n, l, rfl, rfl, rfl, rfl, rfl, (by omega), (by omega), hl, hnm, hpl, ?_, ?_, (fun c j h0 h1 => ((fr c j (by omega) (by omega)).trans rfl)), (fun c j h0 => ((frL c j (by omega)).trans rfl))⟩
              · first
                | (rw [if_pos ⟨by omega, by omega⟩, oPd_p hjg (by omega) (by omega) (by first | (have e : t = s.toNat := (by omega); rw [e]; exact hs.2.2) | (by_cases e : dbs d t = t; (rw [if_pos e] at f223; omega); (rw [if_neg e] at f223; omega))) (by omega), ← t202.2]
                   exact p249hNJ2)
                | (rw [if_pos ⟨by omega, by omega⟩, oPd_k (by omega) (by first | (have e : t = s.toNat := (by omega); rw [e]; exact hs.2.2) | (by_cases e : dbs d t = t; (rw [if_pos e] at f223; omega); (rw [if_neg e] at f223; omega))) (by omega)]
                   rw [if_pos ⟨by omega, by omega⟩] at hNJ1
                   exact hNJ1)
                | (rw [if_pos ⟨by omega, by omega⟩, oPd_n (fun w => by by_cases e : dbs d t = t; omega; (rw [if_neg e] at f223; omega)) (by omega)]
                   rw [if_pos ⟨by omega, by omega⟩] at hNJ1
                   exact hNJ1)
              · first
                | (rw [if_pos ⟨by omega, by omega⟩, oPd_p hjg (by omega) (by omega) (by first | (have e : t = s.toNat := (by omega); rw [e]; exact hs.2.2) | (by_cases e : dbs d t = t; (rw [if_pos e] at f223; omega); (rw [if_neg e] at f223; omega))) (by omega), ← t202.2]
                   exact (p249bbhJN2 (by have w := hJN1; rw [if_pos ⟨by omega, by omega⟩] at w; exact w)))
                | (rw [if_pos ⟨by omega, by omega⟩, oPd_k (by omega) (by first | (have e : t = s.toNat := (by omega); rw [e]; exact hs.2.2) | (by_cases e : dbs d t = t; (rw [if_pos e] at f223; omega); (rw [if_neg e] at f223; omega))) (by omega)]
                   rw [if_pos ⟨by omega, by omega⟩] at hJN1
                   exact hJN1)
                | (rw [if_pos ⟨by omega, by omega⟩, oPd_n (fun w => by by_cases e : dbs d t = t; omega; (rw [if_neg e] at f223; omega)) (by omega)]
                   rw [if_pos ⟨by omega, by omega⟩] at hJN1
                   exact hJN1)
            · refine And.intro (zA_165 hS) (zrdR (v := some q) hdq ?_)
              refine And.intro (zDX hDq 0 rfl) ⟨_, sn_J_port.up (by decide), ?_⟩
              refine ⟨q, (oPd d s (onm O j_ 0) (onm O j_ 1) n t), (t : Int), (l : Int), (n : Int), rfl, hDq, (by have w := hNJ1; rw [if_pos ⟨by omega, by omega⟩] at w; exact w), (oPd_g hjg (by omega) hs ⟨g3 j_ 0 (by omega) (by omega), g3 j_ 1 (by omega) (by omega)⟩ (by omega) (by omega)), (by have w := sq (by omega); rw [w.1, w.2.2.1]; exact ⟨by omega, by omega, show 0 ≤ dpr d t by omega⟩), (by have w := sq (by omega); rw [show l.toNat = dnl d by omega, w.2.2.2.1, w.2.2.2.2.1, w.2.1]; exact ⟨by omega, by omega, (show s = (dbs d t : Int) from ((by first | (have e : t = s.toNat := (by omega); rw [e]; exact hs.2.2) | (by_cases e : dbs d t = t; (rw [if_pos e] at f223; omega); (rw [if_neg e] at f223; omega))) : (dbs d t : Int) = s).symm)⟩), (by have w := sq (by omega); rw [show l.toNat = dnl d by omega]; exact w.2.2.2.2.2.symm), (by omega), ?_⟩
              intro v249o I249o L249o p249hNJ2 p249bhJG2 p249bbhJN2 p249bbbfr p249bbbbfrL
              refine ⟨(1, (17 - (t + 1)), 0), zlt6 (by omega), [some (zvr (165)), none, none, some (zvi (s)), none, none, none, none, none, some (zvi (a)), some (zvi (n)), some (zvi (l)), some (zvi ((t + 1))), none], ⟨rfl, rfl, rfl, rfl, rfl, rfl, rfl⟩, a, (t + 1), n, l, rfl, rfl, rfl, rfl, rfl, (by omega), (by omega), hl, hnm, hpl, ?_, ?_, (fun c j h0 h1 => ((p249bbbfr c j (by omega) (by omega) (by omega) (by omega) (by omega) (by omega) (by omega) (by omega) (by omega) (by omega) (by omega)).trans ((fr c j (by omega) (by omega)).trans rfl))), (fun c j h0 => ((p249bbbbfrL c j).trans ((frL c j (by omega)).trans rfl)))⟩
              · first
                | (rw [if_pos ⟨by omega, by omega⟩, oPd_p hjg (by omega) (by omega) (by first | (have e : t = s.toNat := (by omega); rw [e]; exact hs.2.2) | (by_cases e : dbs d t = t; (rw [if_pos e] at f223; omega); (rw [if_neg e] at f223; omega))) (by omega), ← t202.2]
                   exact p249hNJ2)
                | (rw [if_pos ⟨by omega, by omega⟩, oPd_k (by omega) (by first | (have e : t = s.toNat := (by omega); rw [e]; exact hs.2.2) | (by_cases e : dbs d t = t; (rw [if_pos e] at f223; omega); (rw [if_neg e] at f223; omega))) (by omega)]
                   rw [if_pos ⟨by omega, by omega⟩] at hNJ1
                   exact hNJ1)
                | (rw [if_pos ⟨by omega, by omega⟩, oPd_n (fun w => by by_cases e : dbs d t = t; omega; (rw [if_neg e] at f223; omega)) (by omega)]
                   rw [if_pos ⟨by omega, by omega⟩] at hNJ1
                   exact hNJ1)
              · first
                | (rw [if_pos ⟨by omega, by omega⟩, oPd_p hjg (by omega) (by omega) (by first | (have e : t = s.toNat := (by omega); rw [e]; exact hs.2.2) | (by_cases e : dbs d t = t; (rw [if_pos e] at f223; omega); (rw [if_neg e] at f223; omega))) (by omega), ← t202.2]
                   exact (p249bbhJN2 (by have w := hJN1; rw [if_pos ⟨by omega, by omega⟩] at w; exact w)))
                | (rw [if_pos ⟨by omega, by omega⟩, oPd_k (by omega) (by first | (have e : t = s.toNat := (by omega); rw [e]; exact hs.2.2) | (by_cases e : dbs d t = t; (rw [if_pos e] at f223; omega); (rw [if_neg e] at f223; omega))) (by omega)]
                   rw [if_pos ⟨by omega, by omega⟩] at hJN1
                   exact hJN1)
                | (rw [if_pos ⟨by omega, by omega⟩, oPd_n (fun w => by by_cases e : dbs d t = t; omega; (rw [if_neg e] at f223; omega)) (by omega)]
                   rw [if_pos ⟨by omega, by omega⟩] at hJN1
                   exact hJN1)
          · refine And.intro (zA_165 hS) (zrdR (v := some 195) (zR_165_9 hR) ?_)
            refine And.intro (zP_195 hS (by omega) (by omega)) (fun v223 e223 r223 => ?_)
            have f223 : v223 = if dbs d t = t then -1 else (dbs d t : Int) := (e223.trans ((fr 195 _ (by omega) (by omega)).trans (m3 t (by omega)).2))
            refine And.intro ⟨r223, (by omega)⟩ ⟨fun h225 => ?_, fun h225 => ?_⟩
            · refine ⟨(1, (17 - (t + 1)), 0), zlt6 (by omega), [some (zvr (165)), none, none, some (zvi (s)), none, none, none, none, none, some (zvi (a)), some (zvi (n)), some (zvi (l)), some (zvi ((t + 1))), none], ⟨rfl, rfl, rfl, rfl, rfl, rfl, rfl⟩, a, (t + 1), n, l, rfl, rfl, rfl, rfl, rfl, (by omega), (by omega), hl, hnm, hpl, ?_, ?_, (fun c j h0 h1 => ((fr c j (by omega) (by omega)).trans rfl)), (fun c j h0 => ((frL c j (by omega)).trans rfl))⟩
              · first
                | (rw [if_pos ⟨by omega, by omega⟩, oPd_p hjg (by omega) (by omega) (by first | (have e : t = s.toNat := (by omega); rw [e]; exact hs.2.2) | (by_cases e : dbs d t = t; (rw [if_pos e] at f223; omega); (rw [if_neg e] at f223; omega))) (by omega), ← t202.2]
                   exact p249hNJ2)
                | (rw [if_pos ⟨by omega, by omega⟩, oPd_k (by omega) (by first | (have e : t = s.toNat := (by omega); rw [e]; exact hs.2.2) | (by_cases e : dbs d t = t; (rw [if_pos e] at f223; omega); (rw [if_neg e] at f223; omega))) (by omega)]
                   rw [if_pos ⟨by omega, by omega⟩] at hNJ1
                   exact hNJ1)
                | (rw [if_pos ⟨by omega, by omega⟩, oPd_n (fun w => by by_cases e : dbs d t = t; omega; (rw [if_neg e] at f223; omega)) (by omega)]
                   rw [if_pos ⟨by omega, by omega⟩] at hNJ1
                   exact hNJ1)
              · first
                | (rw [if_pos ⟨by omega, by omega⟩, oPd_p hjg (by omega) (by omega) (by first | (have e : t = s.toNat := (by omega); rw [e]; exact hs.2.2) | (by_cases e : dbs d t = t; (rw [if_pos e] at f223; omega); (rw [if_neg e] at f223; omega))) (by omega), ← t202.2]
                   exact (p249bbhJN2 (by have w := hJN1; rw [if_pos ⟨by omega, by omega⟩] at w; exact w)))
                | (rw [if_pos ⟨by omega, by omega⟩, oPd_k (by omega) (by first | (have e : t = s.toNat := (by omega); rw [e]; exact hs.2.2) | (by_cases e : dbs d t = t; (rw [if_pos e] at f223; omega); (rw [if_neg e] at f223; omega))) (by omega)]
                   rw [if_pos ⟨by omega, by omega⟩] at hJN1
                   exact hJN1)
                | (rw [if_pos ⟨by omega, by omega⟩, oPd_n (fun w => by by_cases e : dbs d t = t; omega; (rw [if_neg e] at f223; omega)) (by omega)]
                   rw [if_pos ⟨by omega, by omega⟩] at hJN1
                   exact hJN1)
            · refine And.intro (zA_165 hS) (zrdR (v := some 196) (zR_165_10 hR) ?_)
              refine And.intro (zP_196 hS (by omega) (by omega)) (fun v234 e234 r234 => ?_)
              have f234 : v234 = dpr d t := (e234.trans ((congrArg (I1 196) (by omega)).trans ((fr 196 _ (by omega) (by omega)).trans (m3 t (by omega)).1)))
              have f234b : -1 ≤ v234 := (by have w := gs t (by omega); omega)
              refine And.intro ⟨r234, (zRb rfl)⟩ ⟨fun h236 => ?_, fun h236 => ?_⟩
              · refine ⟨(1, (17 - (t + 1)), 0), zlt6 (by omega), [some (zvr (165)), none, none, some (zvi (s)), none, none, none, none, none, some (zvi (a)), some (zvi (n)), some (zvi (l)), some (zvi ((t + 1))), none], ⟨rfl, rfl, rfl, rfl, rfl, rfl, rfl⟩, a, (t + 1), n, l, rfl, rfl, rfl, rfl, rfl, (by omega), (by omega), hl, hnm, hpl, ?_, ?_, (fun c j h0 h1 => ((fr c j (by omega) (by omega)).trans rfl)), (fun c j h0 => ((frL c j (by omega)).trans rfl))⟩
                · first
                  | (rw [if_pos ⟨by omega, by omega⟩, oPd_p hjg (by omega) (by omega) (by first | (have e : t = s.toNat := (by omega); rw [e]; exact hs.2.2) | (by_cases e : dbs d t = t; (rw [if_pos e] at f223; omega); (rw [if_neg e] at f223; omega))) (by omega), ← t202.2]
                     exact p249hNJ2)
                  | (rw [if_pos ⟨by omega, by omega⟩, oPd_k (by omega) (by first | (have e : t = s.toNat := (by omega); rw [e]; exact hs.2.2) | (by_cases e : dbs d t = t; (rw [if_pos e] at f223; omega); (rw [if_neg e] at f223; omega))) (by omega)]
                     rw [if_pos ⟨by omega, by omega⟩] at hNJ1
                     exact hNJ1)
                  | (rw [if_pos ⟨by omega, by omega⟩, oPd_n (fun w => by by_cases e : dbs d t = t; omega; (rw [if_neg e] at f223; omega)) (by omega)]
                     rw [if_pos ⟨by omega, by omega⟩] at hNJ1
                     exact hNJ1)
                · first
                  | (rw [if_pos ⟨by omega, by omega⟩, oPd_p hjg (by omega) (by omega) (by first | (have e : t = s.toNat := (by omega); rw [e]; exact hs.2.2) | (by_cases e : dbs d t = t; (rw [if_pos e] at f223; omega); (rw [if_neg e] at f223; omega))) (by omega), ← t202.2]
                     exact (p249bbhJN2 (by have w := hJN1; rw [if_pos ⟨by omega, by omega⟩] at w; exact w)))
                  | (rw [if_pos ⟨by omega, by omega⟩, oPd_k (by omega) (by first | (have e : t = s.toNat := (by omega); rw [e]; exact hs.2.2) | (by_cases e : dbs d t = t; (rw [if_pos e] at f223; omega); (rw [if_neg e] at f223; omega))) (by omega)]
                     rw [if_pos ⟨by omega, by omega⟩] at hJN1
                     exact hJN1)
                  | (rw [if_pos ⟨by omega, by omega⟩, oPd_n (fun w => by by_cases e : dbs d t = t; omega; (rw [if_neg e] at f223; omega)) (by omega)]
                     rw [if_pos ⟨by omega, by omega⟩] at hJN1
                     exact hJN1)
              · refine And.intro (zA_165 hS) (zrdR (v := some q) hdq ?_)
                refine And.intro (zDX hDq 0 rfl) ⟨_, sn_J_port.up (by decide), ?_⟩
                refine ⟨q, (oPd d s (onm O j_ 0) (onm O j_ 1) n t), (t : Int), (l : Int), (n : Int), rfl, hDq, (by have w := hNJ1; rw [if_pos ⟨by omega, by omega⟩] at w; exact w), (oPd_g hjg (by omega) hs ⟨g3 j_ 0 (by omega) (by omega), g3 j_ 1 (by omega) (by omega)⟩ (by omega) (by omega)), (by have w := sq (by omega); rw [w.1, w.2.2.1]; exact ⟨by omega, by omega, show 0 ≤ dpr d t by omega⟩), (by have w := sq (by omega); rw [show l.toNat = dnl d by omega, w.2.2.2.1, w.2.2.2.2.1, w.2.1]; exact ⟨by omega, by omega, (show s = (dbs d t : Int) from ((by first | (have e : t = s.toNat := (by omega); rw [e]; exact hs.2.2) | (by_cases e : dbs d t = t; (rw [if_pos e] at f223; omega); (rw [if_neg e] at f223; omega))) : (dbs d t : Int) = s).symm)⟩), (by have w := sq (by omega); rw [show l.toNat = dnl d by omega]; exact w.2.2.2.2.2.symm), (by omega), ?_⟩
                intro v249o I249o L249o p249hNJ2 p249bhJG2 p249bbhJN2 p249bbbfr p249bbbbfrL
                refine ⟨(1, (17 - (t + 1)), 0), zlt6 (by omega), [some (zvr (165)), none, none, some (zvi (s)), none, none, none, none, none, some (zvi (a)), some (zvi (n)), some (zvi (l)), some (zvi ((t + 1))), none], ⟨rfl, rfl, rfl, rfl, rfl, rfl, rfl⟩, a, (t + 1), n, l, rfl, rfl, rfl, rfl, rfl, (by omega), (by omega), hl, hnm, hpl, ?_, ?_, (fun c j h0 h1 => ((p249bbbfr c j (by omega) (by omega) (by omega) (by omega) (by omega) (by omega) (by omega) (by omega) (by omega) (by omega) (by omega)).trans ((fr c j (by omega) (by omega)).trans rfl))), (fun c j h0 => ((p249bbbbfrL c j).trans ((frL c j (by omega)).trans rfl)))⟩
                · first
                  | (rw [if_pos ⟨by omega, by omega⟩, oPd_p hjg (by omega) (by omega) (by first | (have e : t = s.toNat := (by omega); rw [e]; exact hs.2.2) | (by_cases e : dbs d t = t; (rw [if_pos e] at f223; omega); (rw [if_neg e] at f223; omega))) (by omega), ← t202.2]
                     exact p249hNJ2)
                  | (rw [if_pos ⟨by omega, by omega⟩, oPd_k (by omega) (by first | (have e : t = s.toNat := (by omega); rw [e]; exact hs.2.2) | (by_cases e : dbs d t = t; (rw [if_pos e] at f223; omega); (rw [if_neg e] at f223; omega))) (by omega)]
                     rw [if_pos ⟨by omega, by omega⟩] at hNJ1
                     exact hNJ1)
                  | (rw [if_pos ⟨by omega, by omega⟩, oPd_n (fun w => by by_cases e : dbs d t = t; omega; (rw [if_neg e] at f223; omega)) (by omega)]
                     rw [if_pos ⟨by omega, by omega⟩] at hNJ1
                     exact hNJ1)
                · first
                  | (rw [if_pos ⟨by omega, by omega⟩, oPd_p hjg (by omega) (by omega) (by first | (have e : t = s.toNat := (by omega); rw [e]; exact hs.2.2) | (by_cases e : dbs d t = t; (rw [if_pos e] at f223; omega); (rw [if_neg e] at f223; omega))) (by omega), ← t202.2]
                     exact (p249bbhJN2 (by have w := hJN1; rw [if_pos ⟨by omega, by omega⟩] at w; exact w)))
                  | (rw [if_pos ⟨by omega, by omega⟩, oPd_k (by omega) (by first | (have e : t = s.toNat := (by omega); rw [e]; exact hs.2.2) | (by_cases e : dbs d t = t; (rw [if_pos e] at f223; omega); (rw [if_neg e] at f223; omega))) (by omega)]
                     rw [if_pos ⟨by omega, by omega⟩] at hJN1
                     exact hJN1)
                  | (rw [if_pos ⟨by omega, by omega⟩, oPd_n (fun w => by by_cases e : dbs d t = t; omega; (rw [if_neg e] at f223; omega)) (by omega)]
                     rw [if_pos ⟨by omega, by omega⟩] at hJN1
                     exact hJN1))
