/-! od -/
def T_C_isd : ZT := fun args I L R S Q => ∃ (d : JdS) (ob : Nat → Int) (s : Int), args = [zvr 63, zvi s] ∧ (zSh S) ∧ (zRs R) ∧ (zDA d ob I) ∧ (jGd d) ∧ (-1 ≤ s ∧ s < dns d) ∧ ∀ (v : Int), ((v = 1 ∧ (0 ≤ s ∧ (dbs d s.toNat : Int) = s)) ∨ (v = 0 ∧ ¬ (0 ≤ s ∧ (dbs d s.toNat : Int) = s))) → (0 ≤ v ∧ v ≤ 1) → Q (some (zvi (v))) I L R S
theorem sn_C_isd : ZSnd 2 3 14 T_C_isd := ZSnd.of (zT3_14 1) (by
  rintro args I L R S Q hz ⟨d, ob, s, rfl, hS, hR, hDA, hJG, hs, hQ⟩
  obtain ⟨hSR, hCS, hWR, hJR, hLR, hPR, hTR⟩ := id hDA
  obtain ⟨⟨g1, g2, g3, g4, g5, g6⟩, gs, gw, gj, gl, gp, gt⟩ := id hJG
  obtain ⟨c1_, c2_, c3_, c4_⟩ := id hSR
  obtain ⟨w1_, w2_, w3_, w4_⟩ := id hWR
  obtain ⟨j1_, j2_, j3_, j4_⟩ := id hJR
  obtain ⟨l1_, l2_, l3_, l4_⟩ := id hLR
  obtain ⟨p1_, p2_, p3_, p4_⟩ := id hPR
  obtain ⟨t1_, t2_, t3_, t4_⟩ := id hTR
  refine And.intro rfl ?_
  refine And.intro ⟨(by omega), (zRb rfl)⟩ ⟨fun h2 => ?_, fun h2 => ?_⟩
  · refine And.intro (Or.inl rfl) ?_
    refine hQ _ (by first | exact Or.inl ⟨rfl, by omega, by omega⟩ | exact Or.inr ⟨rfl, by omega⟩) (by omega)
  · refine And.intro (zA_63 hS) (zrdR (v := some 65) (zR_63_2 hR) ?_)
    refine And.intro (zA_65 hS) ⟨_, sn_A_at.up (by decide), ?_⟩
    refine ⟨65, _, _, (cSR d ob), s.toNat, 2, (s : Int), (2 : Int), rfl, hS, hR, (zRw_65 hR hS), (by first | exact (zRT_fr hSR (fun c j h => rfl)) | (clear hQ; grind [xu])), (by omega), (by omega), ?_⟩
    intro v11o p11hv p11bhr
    have g11 : v11o = dbs d s.toNat := (p11hv.trans cSR_2)
    refine And.intro ⟨(by omega), (by omega)⟩ ⟨fun h15 => ?_, fun h15 => ?_⟩
    · refine And.intro (Or.inl rfl) ?_
      refine hQ _ (by first | exact Or.inl ⟨rfl, by omega, by omega⟩ | exact Or.inr ⟨rfl, by omega⟩) (by omega)
    · refine And.intro (Or.inr rfl) ?_
      refine hQ _ (by first | exact Or.inl ⟨rfl, by omega, by omega⟩ | exact Or.inr ⟨rfl, by omega⟩) (by omega))
def T_C_hasj : ZT := fun args I L R S Q => ∃ (d : JdS) (ob : Nat → Int) (s : Int) (x : Int) (y : Int), args = [zvr 70, zvi s, zvi x, zvi y] ∧ (zSh S) ∧ (zRs R) ∧ (zDA d ob I) ∧ (jGd d) ∧ (r32 s ∧ r32 x ∧ r32 y) ∧ ∀ (v : Int), ((v = 1 ∧ ∃ p, p < dnj d ∧ dJ d p 0 = s ∧ dJ d p 1 = x ∧ dJ d p 2 = y) ∨ (v = 0 ∧ ∀ p, p < dnj d → ¬ (dJ d p 0 = s ∧ dJ d p 1 = x ∧ dJ d p 2 = y))) → (0 ≤ v ∧ v ≤ 1) → Q (some (zvi (v))) I L R S
theorem sn_C_hasj : ZSnd 3 3 11 T_C_hasj := ZSnd.loops (zT3_11 2) (by
  rintro args I L R S Q hz ⟨d, ob, s, x, y, rfl, hS, hR, hDA, hJG, hr, hQ⟩
  obtain ⟨hSR, hCS, hWR, hJR, hLR, hPR, hTR⟩ := id hDA
  obtain ⟨⟨g1, g2, g3, g4, g5, g6⟩, gs, gw, gj, gl, gp, gt⟩ := id hJG
  obtain ⟨c1_, c2_, c3_, c4_⟩ := id hSR
  obtain ⟨w1_, w2_, w3_, w4_⟩ := id hWR
  obtain ⟨j1_, j2_, j3_, j4_⟩ := id hJR
  obtain ⟨l1_, l2_, l3_, l4_⟩ := id hLR
  obtain ⟨p1_, p2_, p3_, p4_⟩ := id hPR
  obtain ⟨t1_, t2_, t3_, t4_⟩ := id hTR
  refine ⟨[6], fun nM tM lsM stM I1 L1 R1 S1 => match tM with
      | 6 => ∃ (j : Nat) (a : Int), nM = ((51 - j), 0, 0) ∧ lsM = [some (zvr (70)), some (zvi (s)), some (zvi (x)), some (zvi (y)), some (zvi (a)), some (zvi (j))] ∧ stM = [] ∧ I1 = I ∧ L1 = L ∧ R1 = R ∧ S1 = S ∧ (j ≤ dnj d) ∧ ((a = 1 ∧ ∃ p, p < dnj d ∧ dJ d p 0 = s ∧ dJ d p 1 = x ∧ dJ d p 2 = y) ∨ (a = 0 ∧ ∀ p, p < j → ¬ (dJ d p 0 = s ∧ dJ d p 1 = x ∧ dJ d p 2 = y))) ∧ (0 ≤ a ∧ a ≤ 1)
      | _ => False, rfl, ?_, ⟨?_, True.intro⟩⟩
  · refine ⟨((51 - (0 : Nat)), 0, 0), [some (zvr (70)), some (zvi (s)), some (zvi (x)), some (zvi (y)), some (zvi ((0 : Int))), some (zvi ((0 : Nat)))], ⟨rfl, rfl, rfl, rfl, rfl, rfl, rfl⟩, 0, 0, rfl, rfl, rfl, rfl, rfl, rfl, rfl, (by omega), (Or.inr ⟨rfl, fun p h => absurd h (Nat.not_lt_zero p)⟩), (by omega)⟩
  · rintro nM lsM stM I1 L1 R1 S1 hz1 ⟨j, a, rfl, rfl, rfl, rfl, rfl, rfl, rfl, hj, ha, ha9⟩
    refine And.intro (zA_70 hS) (zrd (v := (dnj d)) j2_ ?_)
    refine And.intro ⟨(by omega), (by omega)⟩ ⟨fun h12 => ?_, fun h12 => ?_⟩
    · refine And.intro (by omega) ?_
      refine hQ _ ?_ (by omega)
      · rcases ha with u | u
        · exact Or.inl u
        · first
          | (exfalso; omega)
          | (obtain rfl : j = dnj d := (by omega)
             exact Or.inr u)
    · refine And.intro (by omega) ⟨fun h17 => ?_, fun h17 => ?_⟩
      · refine And.intro (by omega) ?_
        refine hQ _ ?_ (by omega)
        · rcases ha with u | u
          · exact Or.inl u
          · first
            | (exfalso; omega)
            | (obtain rfl : j = dnj d := (by omega)
               exact Or.inr u)
      · refine ⟨_, sn_C_at.up (by decide), ?_⟩
        refine ⟨70, _, _, (dJ d), (j : Int), j, (s : Int), (x : Int), (y : Int), rfl, hS, hR, (zRw_70 hR hS), (by first | exact (zRT_fr hJR (fun c j h => rfl)) | (clear hQ; grind [xu])), (by omega), (by omega), ?_⟩
        intro v26o p26hv
        refine ⟨((51 - (j + 1)), 0, 0), zlt6 (by omega), [some (zvr (70)), some (zvi (s)), some (zvi (x)), some (zvi (y)), some (zvi (v26o)), some (zvi ((j + 1)))], ⟨rfl, rfl, rfl, rfl, rfl, rfl, rfl⟩, (j + 1), v26o, rfl, rfl, rfl, rfl, rfl, rfl, rfl, (by omega), ?_, (by omega)⟩
        · rcases p26hv with w | w
          · exact Or.inl ⟨w.1, j, by omega, w.2⟩
          · refine Or.inr ⟨w.1, fun p hp => ?_⟩
            by_cases e : p = j
            · rw [e]; exact w.2
            · rcases ha with u | u
              · exfalso; omega
              · exact u.2 p (by omega))
def T_C_addW : ZT := fun args I L R S Q => ∃ (k : Nat) (O : OoS) (d : JdS) (ob : Nat → Int) (j : Int) (j_ : Nat) (s : Int), args = [zvr 63, zvi j, zvi s] ∧ (zSh S) ∧ (zRs R) ∧ (R 63 0 = some k) ∧ (zDy zT2 zF2 k R S) ∧ (43 ≤ k ∧ k ≤ 52) ∧ (zOB k O I L) ∧ (oGd O) ∧ (zDA d ob I) ∧ (jGd d) ∧ (j = j_ ∧ j_ < ocn O) ∧ (0 ≤ s ∧ s < 16) ∧ ∀ (I' : ZI), (zDA (djWs d s (onm O j_ 0) (onm O j_ 1) (onm O j_ 2) (onm O j_ 3)) ob I') → (∀ c j : Nat, ¬ (c = 68 ∧ j = 2) → ¬ c = 69 → I' c j = I c j) → Q none I' L R S
theorem sn_C_addW : ZSnd 4 3 3 T_C_addW := ZSnd.of (zT3_3 3) (by
  rintro args I L R S Q hz ⟨k, O, d, ob, j, j_, s, rfl, hS, hR, hob, hD, hk, hO, hG, hDA, hJG, hj, hs, hQ⟩
  obtain ⟨o1, o2, o3, o4⟩ := id hO
  obtain ⟨g1, g2, g3, g4, g5⟩ := id hG
  have hk40 := hD.1
  have hk1 := hk.1
  have hk2 := hk.2
  obtain ⟨hSR, hCS, hWR, hJR, hLR, hPR, hTR⟩ := id hDA
  obtain ⟨⟨g1, g2, g3, g4, g5, g6⟩, gs, gw, gj, gl, gp, gt⟩ := id hJG
  obtain ⟨c1_, c2_, c3_, c4_⟩ := id hSR
  obtain ⟨w1_, w2_, w3_, w4_⟩ := id hWR
  obtain ⟨j1_, j2_, j3_, j4_⟩ := id hJR
  obtain ⟨l1_, l2_, l3_, l4_⟩ := id hLR
  obtain ⟨p1_, p2_, p3_, p4_⟩ := id hPR
  obtain ⟨t1_, t2_, t3_, t4_⟩ := id hTR
  refine And.intro rfl ?_
  refine And.intro (zA_63 hS) (zrdR (v := some k) hob ?_)
  refine And.intro (zDX hD 0 rfl) ⟨_, sn_O_plc.up (by decide), ?_⟩
  refine ⟨k, O, (j : Int), j_, (0 : Int), 0, rfl, hS, hR, hD, (by first | exact (zOB_fr hO (fun c j h => rfl) (fun c j h => rfl)) | (clear hQ; grind [xu])), (by first | exact hG | (clear hQ; grind [xu])), (by omega), (by omega), ?_⟩
  intro v6o p6hv p6bhv2
  refine And.intro (zA_63 hS) (zrdR (v := some k) hob ?_)
  refine And.intro (zDX hD 0 rfl) ⟨_, sn_O_plc.up (by decide), ?_⟩
  refine ⟨k, O, (j : Int), j_, (1 : Int), 1, rfl, hS, hR, hD, (by first | exact (zOB_fr hO (fun c j h => rfl) (fun c j h => rfl)) | (clear hQ; grind [xu])), (by first | exact hG | (clear hQ; grind [xu])), (by omega), (by omega), ?_⟩
  intro v16o p16hv p16bhv2
  refine And.intro (zA_63 hS) (zrdR (v := some k) hob ?_)
  refine And.intro (zDX hD 0 rfl) ⟨_, sn_O_plc.up (by decide), ?_⟩
  refine ⟨k, O, (j : Int), j_, (2 : Int), 2, rfl, hS, hR, hD, (by first | exact (zOB_fr hO (fun c j h => rfl) (fun c j h => rfl)) | (clear hQ; grind [xu])), (by first | exact hG | (clear hQ; grind [xu])), (by omega), (by omega), ?_⟩
  intro v27o p27hv p27bhv2
  refine And.intro (zA_63 hS) (zrdR (v := some k) hob ?_)
  refine And.intro (zDX hD 0 rfl) ⟨_, sn_O_plc.up (by decide), ?_⟩
  refine ⟨k, O, (j : Int), j_, (3 : Int), 3, rfl, hS, hR, hD, (by first | exact (zOB_fr hO (fun c j h => rfl) (fun c j h => rfl)) | (clear hQ; grind [xu])), (by first | exact hG | (clear hQ; grind [xu])), (by omega), (by omega), ?_⟩
  intro v38o p38hv p38bhv2
  refine And.intro ⟨(by omega), (by omega)⟩ ⟨fun h46 => ?_, fun h46 => ?_⟩
  · refine And.intro (zA_63 hS) (zrdR (v := some 68) (zR_63_4 hR) ?_)
    refine And.intro (zA_68 hS) ⟨_, sn_A_addG.up (by decide), ?_⟩
    refine ⟨68, 100, (dnw d), (dW d), (s : Int), (v6o : Int), (v16o : Int), (v27o : Int), (v38o : Int), rfl, hS, hR, (zRw_68 hR hS), hWR, (by omega), ?_⟩
    intro v68o I68o p68hv p68bhT2 p68bbfr
    refine hQ _ ?_ (fun c j h0 h1 => ((p68bbfr c j (by omega) (by omega)).trans rfl))
    · first
      | (have e : djWs d s (onm O j_ 0) (onm O j_ 1) (onm O j_ 2) (onm O j_ 3) = d := if_neg (fun w => by have w1 := w.1; omega)
         rw [e]
         exact hDA)
      | (rw [← p6hv, ← p16hv, ← p27hv, ← p38hv]
         exact zDA_W hDA (by omega) p68bhT2 (fun x j h => p68bbfr x j (by omega) (by omega)))
  · refine And.intro ⟨(by omega), (by omega)⟩ ⟨fun h53 => ?_, fun h53 => ?_⟩
    · refine hQ _ ?_ (fun c j h0 h1 => rfl)
      · first
        | (have e : djWs d s (onm O j_ 0) (onm O j_ 1) (onm O j_ 2) (onm O j_ 3) = d := if_neg (fun w => by have w1 := w.1; omega)
           rw [e]
           exact hDA)
        | (rw [← p6hv, ← p16hv, ← p27hv, ← p38hv]
           exact zDA_W hDA (by omega) p68bhT2 (fun x j h => p68bbfr x j (by omega) (by omega)))
    · refine And.intro (zA_63 hS) (zrdR (v := some 68) (zR_63_4 hR) ?_)
      refine And.intro (zA_68 hS) ⟨_, sn_A_addG.up (by decide), ?_⟩
      refine ⟨68, 100, (dnw d), (dW d), (s : Int), (v6o : Int), (v16o : Int), (v27o : Int), (v38o : Int), rfl, hS, hR, (zRw_68 hR hS), hWR, (by omega), ?_⟩
      intro v68o I68o p68hv p68bhT2 p68bbfr
      refine hQ _ ?_ (fun c j h0 h1 => ((p68bbfr c j (by omega) (by omega)).trans rfl))
      · first
        | (have e : djWs d s (onm O j_ 0) (onm O j_ 1) (onm O j_ 2) (onm O j_ 3) = d := if_neg (fun w => by have w1 := w.1; omega)
           rw [e]
           exact hDA)
        | (rw [← p6hv, ← p16hv, ← p27hv, ← p38hv]
           exact zDA_W hDA (by omega) p68bhT2 (fun x j h => p68bbfr x j (by omega) (by omega))))
def T_C_nam : ZT := fun args I L R S Q => ∃ (k : Nat) (O : OoS) (j : Int) (j_ : Nat) (a : Int) (a_ : Nat), args = [zvr 63, zvi j, zvi a] ∧ (zSh S) ∧ (zRs R) ∧ (R 63 0 = some k) ∧ (zDy zT2 zF2 k R S) ∧ (43 ≤ k ∧ k ≤ 52) ∧ (zOB k O I L) ∧ (oGd O) ∧ (j = j_ ∧ j_ < ocn O) ∧ (a = a_ ∧ a_ ≤ 1) ∧ ∀ (v : Int), (v = oNi O j_ a_) → (-1 ≤ v ∧ v ≤ 999) → Q (some (zvi (v))) I L R S
theorem sn_C_nam : ZSnd 4 3 28 T_C_nam := ZSnd.loops (zT3_28 3) (by
  rintro args I L R S Q hz ⟨k, O, j, j_, a, a_, rfl, hS, hR, hob, hD, hk, hO, hG, hj, ha, hQ⟩
  obtain ⟨o1, o2, o3, o4⟩ := id hO
  obtain ⟨g1, g2, g3, g4, g5⟩ := id hG
  have hk40 := hD.1
  have hk1 := hk.1
  have hk2 := hk.2
  have l5 := (g4 j_ 0 (by omega) (by omega)).1
  refine ⟨[32], fun nM tM lsM stM I1 L1 R1 S1 => match tM with
      | 32 => ∃ (i : Nat) (n : Int), nM = ((4001 - i), 0, 0) ∧ lsM = [some (zvr (63)), some (zvi (j_)), none, some (zvi (otl O j_ 0)), some (zvi (n)), some (zvi (i)), none] ∧ stM = [] ∧ I1 = I ∧ L1 = L ∧ R1 = R ∧ S1 = S ∧ (a_ ≤ i ∧ i ≤ otl O j_ 0) ∧ (a_ + 1 ≤ otl O j_ 0 ∧ otl O j_ 0 ≤ a_ + 3) ∧ ((n = oVl O j_ a_ (i - a_) ∧ 0 ≤ n ∧ ∀ x, a_ ≤ x → x < i → oDg O j_ x) ∨ (n = -1 ∧ ¬ oNa O j_ a_)) ∧ ((-1 ≤ n ∧ n ≤ 999) ∧ (i ≤ a_ + 2 → n ≤ 99) ∧ (i ≤ a_ + 1 → n ≤ 9) ∧ (i = a_ → n ≤ 0))
      | _ => False, rfl, ?_, ⟨?_, True.intro⟩⟩
  · refine And.intro (zA_63 hS) (zrdR (v := some k) hob ?_)
    refine And.intro (zDX hD 0 rfl) ⟨_, sn_O_tl.up (by decide), ?_⟩
    refine ⟨k, O, (j : Int), j_, (0 : Int), 0, rfl, hS, hR, hD, (by first | exact (zOB_fr hO (fun c j h => rfl) (fun c j h => rfl)) | (clear hQ; grind [xu])), (by first | exact hG | (clear hQ; grind [xu])), (by omega), (by omega), ?_⟩
    intro v6o p6hv p6bhv2
    refine And.intro ⟨(by omega), (zRb rfl)⟩ ⟨fun h14 => ?_, fun h14 => ?_⟩
    · refine hQ _ ?_ (by omega)
      · first
        | (rcases hn with q | q
           · first
             | (exfalso; omega)
             | (obtain rfl : i = otl O j_ 0 := (by omega)
                exact q.1.trans (oNi_y ⟨hb, q.2.2⟩))
           · rw [q.1]
             exact oNi_n q.2)
        | exact oNi_n (fun w => by have w1 := w.1; omega)
    · refine And.intro ⟨(by omega), (zRb rfl)⟩ ⟨fun h21 => ?_, fun h21 => ?_⟩
      · refine ⟨((4001 - a_), 0, 0), [some (zvr (63)), some (zvi (j_)), none, some (zvi (otl O j_ 0)), some (zvi ((0 : Int))), some (zvi (a_)), none], ⟨rfl, (congrArg (fun z => some (zvi z)) (by omega)), (congrArg (fun z => some (zvi z)) (by omega)), rfl, (congrArg (fun z => some (zvi z)) (by omega)), rfl⟩, a_, 0, rfl, rfl, rfl, rfl, rfl, rfl, rfl, (by omega), (by omega), (Or.inl ⟨by rw [Nat.sub_self]; rfl, by omega, fun x h1 h2 => by omega⟩), (by clear hQ; grind [xu])⟩
      · refine hQ _ ?_ (by omega)
        · first
          | (rcases hn with q | q
             · first
               | (exfalso; omega)
               | (obtain rfl : i = otl O j_ 0 := (by omega)
                  exact q.1.trans (oNi_y ⟨hb, q.2.2⟩))
             · rw [q.1]
               exact oNi_n q.2)
          | exact oNi_n (fun w => by have w1 := w.1; omega)
  · rintro nM lsM stM I1 L1 R1 S1 hz1 ⟨i, n, rfl, rfl, rfl, rfl, rfl, rfl, rfl, hi, hb, hn, hnb⟩
    refine And.intro ⟨(by omega), (by omega)⟩ ⟨fun h35 => ?_, fun h35 => ?_⟩
    · refine hQ _ ?_ (by omega)
      · first
        | (rcases hn with q | q
           · first
             | (exfalso; omega)
             | (obtain rfl : i = otl O j_ 0 := (by omega)
                exact q.1.trans (oNi_y ⟨hb, q.2.2⟩))
           · rw [q.1]
             exact oNi_n q.2)
        | exact oNi_n (fun w => by have w1 := w.1; omega)
    · refine And.intro ⟨(by omega), (zRb rfl)⟩ ⟨fun h41 => ?_, fun h41 => ?_⟩
      · refine hQ _ ?_ (by omega)
        · first
          | (rcases hn with q | q
             · first
               | (exfalso; omega)
               | (obtain rfl : i = otl O j_ 0 := (by omega)
                  exact q.1.trans (oNi_y ⟨hb, q.2.2⟩))
             · rw [q.1]
               exact oNi_n q.2)
          | exact oNi_n (fun w => by have w1 := w.1; omega)
      · refine And.intro (zA_63 hS) (zrdR (v := some k) hob ?_)
        refine And.intro (zDX hD 0 rfl) (Exists.intro _ (And.intro (zinl_ok (zT2_27 2)) (And.intro rfl ?_)))
        refine And.intro (by omega) ⟨(fun h1_52 => False.elim (by omega)), fun h1_52 => ?_⟩
        refine And.intro (zDX hD 0 rfl) ⟨_, sn_O_tl.up (by decide), ?_⟩
        refine ⟨k, O, (j_ : Int), j_, (0 : Int), 0, rfl, hS, hR, hD, (by first | exact (zOB_fr hO (fun c j h => rfl) (fun c j h => rfl)) | (clear hQ; grind [xu])), (by first | exact hG | (clear hQ; grind [xu])), (by omega), (by omega), ?_⟩
        intro v8_52o p8_52hv p8_52bhv2
        refine And.intro ⟨(by omega), (by omega)⟩ ⟨(fun h11_52 => False.elim (by omega)), fun h11_52 => ?_⟩
        refine And.intro (zDX hD 0 rfl) ⟨_, sn_O_let.up (by decide), ?_⟩
        refine ⟨k, O, (j_ : Int), j_, (0 : Int), 0, (i : Int), i, rfl, hS, hR, hD, (by first | exact (zOB_fr hO (fun c j h => rfl) (fun c j h => rfl)) | (clear hQ; grind [xu])), (by first | exact hG | (clear hQ; grind [xu])), (by omega), (by omega), (by omega), ?_⟩
        intro v18_52o p18_52hv p18_52bhv2
        refine And.intro ⟨(by omega), (zRb rfl)⟩ ⟨fun h61 => ?_, fun h61 => ?_⟩
        · refine ⟨((4001 - (i + 1)), 0, 0), zlt6 (by omega), [some (zvr (63)), some (zvi (j_)), none, some (zvi (otl O j_ 0)), some (zvi (((-1) : Int))), some (zvi ((i + 1))), none], ⟨rfl, rfl, rfl, (congrArg (fun z => some (zvi z)) (by omega)), rfl, rfl⟩, (i + 1), (-1), rfl, rfl, rfl, rfl, rfl, rfl, rfl, (by omega), (by omega), ?_, (by first | exact hnb | (clear hQ; grind [xu]))⟩
          · rcases hn with q | q
            · first
              | (refine Or.inl ⟨?_, by omega, fun x h1 h2 => ?_⟩
                 · rw [show i + 1 - a_ = (i - a_) + 1 by omega]
                   have e : oVl O j_ a_ (i - a_ + 1) = 10 * oVl O j_ a_ (i - a_) + otc O j_ 0 (a_ + (i - a_)) - 48 := rfl
                   rw [e, show a_ + (i - a_) = i by omega]
                   omega
                 · by_cases e : x = i
                   · rw [e]
                     exact ⟨by omega, by omega⟩
                   · exact q.2.2 x h1 (by omega))
              | (refine Or.inr ⟨rfl, fun w => ?_⟩
                 have w2 := w.2 i (by omega) (by omega)
                 have w3 := w2.1
                 have w4 := w2.2
                 omega)
            · exfalso; omega
        · refine And.intro ⟨(by omega), (zRb rfl)⟩ ⟨fun h68 => ?_, fun h68 => ?_⟩
          · refine ⟨((4001 - (i + 1)), 0, 0), zlt6 (by omega), [some (zvr (63)), some (zvi (j_)), none, some (zvi (otl O j_ 0)), some (zvi (((-1) : Int))), some (zvi ((i + 1))), none], ⟨rfl, rfl, rfl, (congrArg (fun z => some (zvi z)) (by omega)), rfl, rfl⟩, (i + 1), (-1), rfl, rfl, rfl, rfl, rfl, rfl, rfl, (by omega), (by omega), ?_, (by first | exact hnb | (clear hQ; grind [xu]))⟩
            · rcases hn with q | q
              · first
                | (refine Or.inl ⟨?_, by omega, fun x h1 h2 => ?_⟩
                   · rw [show i + 1 - a_ = (i - a_) + 1 by omega]
                     have e : oVl O j_ a_ (i - a_ + 1) = 10 * oVl O j_ a_ (i - a_) + otc O j_ 0 (a_ + (i - a_)) - 48 := rfl
                     rw [e, show a_ + (i - a_) = i by omega]
                     omega
                   · by_cases e : x = i
                     · rw [e]
                       exact ⟨by omega, by omega⟩
                     · exact q.2.2 x h1 (by omega))
                | (refine Or.inr ⟨rfl, fun w => ?_⟩
                   have w2 := w.2 i (by omega) (by omega)
                   have w3 := w2.1
                   have w4 := w2.2
                   omega)
              · exfalso; omega
          · refine ⟨((4001 - (i + 1)), 0, 0), zlt6 (by omega), [some (zvr (63)), some (zvi (j_)), none, some (zvi (otl O j_ 0)), some (zvi ((((n * 10) + v18_52o) - 48))), some (zvi ((i + 1))), none], ⟨rfl, rfl, rfl, rfl, rfl, rfl⟩, (i + 1), (((n * 10) + v18_52o) - 48), rfl, rfl, rfl, rfl, rfl, rfl, rfl, (by omega), (by omega), ?_, (by first | exact hnb | (clear hQ; grind [xu]))⟩
            · rcases hn with q | q
              · first
                | (refine Or.inl ⟨?_, by omega, fun x h1 h2 => ?_⟩
                   · rw [show i + 1 - a_ = (i - a_) + 1 by omega]
                     have e : oVl O j_ a_ (i - a_ + 1) = 10 * oVl O j_ a_ (i - a_) + otc O j_ 0 (a_ + (i - a_)) - 48 := rfl
                     rw [e, show a_ + (i - a_) = i by omega]
                     omega
                   · by_cases e : x = i
                     · rw [e]
                       exact ⟨by omega, by omega⟩
                     · exact q.2.2 x h1 (by omega))
                | (refine Or.inr ⟨rfl, fun w => ?_⟩
                   have w2 := w.2 i (by omega) (by omega)
                   have w3 := w2.1
                   have w4 := w2.2
                   omega)
              · exfalso; omega)
def T_C_prts : ZT := fun args I L R S Q => ∃ (d : JdS) (ob : Nat → Int) (l : Int) (l_ : Nat) (s : Int) (s_ : Nat), args = [zvr 63, zvi l, zvi s] ∧ (zSh S) ∧ (zRs R) ∧ (zDA d ob I) ∧ (jGd d) ∧ (l = l_ ∧ l_ < dnl d) ∧ (s = s_ ∧ s_ < dns d ∧ dbs d s_ = s_) ∧ (dL d l_ 0 = s_) ∧ ∀ (I' : ZI), (zDA (oPc d l_ s_ (jNc (dbs d) s_ (dns d))) ob I') → (∀ c j : Nat, ¬ (c = 74 ∧ j = 2) → ¬ c = 75 → I' c j = I c j) → Q none I' L R S
theorem sn_C_prts : ZSnd 3 3 2 T_C_prts := ZSnd.loops (zT3_2 2) (by
  rintro args I L R S Q hz ⟨d, ob, l, l_, s, s_, rfl, hS, hR, hDA, hJG, hl, hs, hls, hQ⟩
  obtain ⟨hSR, hCS, hWR, hJR, hLR, hPR, hTR⟩ := id hDA
  obtain ⟨⟨g1, g2, g3, g4, g5, g6⟩, gs, gw, gj, gl, gp, gt⟩ := id hJG
  obtain ⟨c1_, c2_, c3_, c4_⟩ := id hSR
  obtain ⟨w1_, w2_, w3_, w4_⟩ := id hWR
  obtain ⟨j1_, j2_, j3_, j4_⟩ := id hJR
  obtain ⟨l1_, l2_, l3_, l4_⟩ := id hLR
  obtain ⟨p1_, p2_, p3_, p4_⟩ := id hPR
  obtain ⟨t1_, t2_, t3_, t4_⟩ := id hTR
  have hnc := jNc_le (dbs d) s_ (dns d)
  refine ⟨[2], fun nM tM lsM stM I1 L1 R1 S1 => match tM with
      | 2 => ∃ (c : Nat), nM = ((17 - c), 0, 0) ∧ lsM = [some (zvr (63)), some (zvi (l_)), some (zvi (s_)), some (zvi (c)), none] ∧ stM = [] ∧ L1 = L ∧ R1 = R ∧ S1 = S ∧ (c ≤ jNc (dbs d) s_ (dns d)) ∧ (zDA (oPc d l_ s_ c) ob I1) ∧ (∀ c j : Nat, ¬ (c = 74 ∧ j = 2) → ¬ c = 75 → I1 c j = I c j)
      | _ => False, rfl, ?_, ⟨?_, True.intro⟩⟩
  · refine ⟨((17 - (0 : Nat)), 0, 0), [some (zvr (63)), some (zvi (l_)), some (zvi (s_)), some (zvi ((0 : Nat))), none], ⟨rfl, (congrArg (fun z => some (zvi z)) (by omega)), (congrArg (fun z => some (zvi z)) (by omega)), rfl, rfl⟩, 0, rfl, rfl, rfl, rfl, rfl, rfl, (by omega), hDA, (fun c j h0 h1 => rfl)⟩
  · rintro nM lsM stM I1 L1 R1 S1 hz1 ⟨c, rfl, rfl, rfl, rfl, rfl, rfl, hc, hDA1, fr⟩
    have ps := oPc_s (d := d) (l := l_) (s := s_) c
    have hSR1 := zRT_fr hSR (I' := I1) (fun x j h => fr x j (by omega) (by omega))
    have hPR1 := hDA1.2.2.2.2.2.1
    refine And.intro (zA_63 hS) (Exists.intro _ (And.intro (zinl_ok (zT3_5 1)) (And.intro rfl ?_)))
    refine And.intro (zA_63 hS) (zrdR (v := some 65) (zR_63_2 hR) ?_)
    refine And.intro (zA_65 hS) ⟨_, sn_A_at.up (by decide), ?_⟩
    refine ⟨65, 16, (dns d), (cSR d ob), s_, 4, (s_ : Int), (4 : Int), rfl, hS, hR, (zRw_65 hR hS), (by first | exact (zRT_fr hSR (fun c j h => ((fr c j (by omega) (by omega)).trans rfl))) | (clear hQ; grind [xu])), (by omega), (by omega), ?_⟩
    intro v6_5o p6_5hv p6_5bhr
    have g6_5 : v6_5o = jNc (dbs d) s_ (dns d) := (p6_5hv.trans (cSR_4 (by omega)))
    refine And.intro ⟨(by omega), (by omega)⟩ ⟨fun h8 => ?_, fun h8 => ?_⟩
    · refine hQ _ ?_ (fun c j h0 h1 => ((fr c j (by omega) (by omega)).trans rfl))
      · obtain rfl : c = jNc (dbs d) s_ (dns d) := (by omega)
        exact hDA1
    · refine And.intro (zA_63 hS) (Exists.intro _ (And.intro (zinl_ok (zT3_37 1)) (And.intro rfl ?_)))
      refine And.intro (zA_63 hS) (zrdR (v := some 67) (zR_63_3 hR) ?_)
      refine And.intro (zP_67 hS (by omega) (by omega)) (fun v10_14 e10_14 r10_14 => ?_)
      have f10_14 : v10_14 = jCp (dbs d) s_ (dns d) 0 c := (by obtain ⟨t, t1, t2, t3, t4⟩ := oCp (d := d) (s := s_) (c := c) (by omega); rw [t4]; exact e10_14.trans ((congrArg (I1 67) (by omega)).trans ((fr 67 _ (by omega) (by omega)).trans (hCS t t1))))
      have f10_14b : 0 ≤ jCp (dbs d) s_ (dns d) 0 c ∧ jCp (dbs d) s_ (dns d) 0 c + 1 ≤ dns d := (by obtain ⟨t, t1, t2, t3, t4⟩ := oCp (d := d) (s := s_) (c := c) (by omega); rw [t4]; omega)
      refine And.intro (zA_63 hS) (zrdR (v := some 65) (zR_63_2 hR) ?_)
      refine And.intro (zA_65 hS) ⟨_, sn_A_at.up (by decide), ?_⟩
      refine ⟨65, 16, (dns d), (cSR d ob), (jCp (dbs d) s_ (dns d) 0 c).toNat, 1, (v10_14 : Int), (1 : Int), rfl, hS, hR, (zRw_65 hR hS), hSR1, (by omega), (by omega), ?_⟩
      intro v26o p26hv p26bhr
      have g26 : v26o = dpr d (jCp (dbs d) s_ (dns d) 0 c).toNat := (p26hv.trans cSR_1)
      have g26b : -1 ≤ v26o := (by have w := gs (jCp (dbs d) s_ (dns d) 0 c).toNat (by omega); omega)
      refine And.intro ⟨(by omega), (zRb rfl)⟩ ⟨fun h30 => ?_, fun h30 => ?_⟩
      · refine ⟨((17 - (c + 1)), 0, 0), zlt6 (by omega), [some (zvr (63)), some (zvi (l_)), some (zvi (s_)), some (zvi ((c + 1))), none], ⟨rfl, rfl, rfl, rfl, rfl⟩, (c + 1), rfl, rfl, rfl, rfl, rfl, rfl, (by omega), ?_, (fun c j h0 h1 => ((fr c j (by omega) (by omega)).trans rfl))⟩
        · first
          | (rw [oPc_n (by omega)]
             exact hDA1)
          | (rw [oPc_t (by omega), ← f10_14]
             exact zDA_P hDA1 p43bhT2 (fun x j h => p43bbfr x j (by omega) (by omega)))
      · refine And.intro (zA_63 hS) (zrdR (v := some 74) (zR_63_7 hR) ?_)
        refine And.intro (zA_74 hS) ⟨_, sn_A_addG.up (by decide), ?_⟩
        refine ⟨74, 30, (dnp (oPc d l_ s_ c)), (dP (oPc d l_ s_ c)), (l_ : Int), (v10_14 : Int), (0 : Int), (0 : Int), (0 : Int), rfl, hS, hR, (zRw_74 hR hS), hPR1, (by omega), ?_⟩
        intro v43o I43o p43hv p43bhT2 p43bbfr
        refine ⟨((17 - (c + 1)), 0, 0), zlt6 (by omega), [some (zvr (63)), some (zvi (l_)), some (zvi (s_)), some (zvi ((c + 1))), none], ⟨rfl, rfl, rfl, rfl, rfl⟩, (c + 1), rfl, rfl, rfl, rfl, rfl, rfl, (by omega), ?_, (fun c j h0 h1 => ((p43bbfr c j (by omega) (by omega)).trans ((fr c j (by omega) (by omega)).trans rfl)))⟩
        · first
          | (rw [oPc_n (by omega)]
             exact hDA1)
          | (rw [oPc_t (by omega), ← f10_14]
             exact zDA_P hDA1 p43bhT2 (fun x j h => p43bbfr x j (by omega) (by omega))))
def T_C_addN : ZT := fun args I L R S Q => ∃ (k : Nat) (O : OoS) (d : JdS) (ob : Nat → Int) (j : Int) (j_ : Nat) (s : Int), args = [zvr 63, zvi j, zvi s] ∧ (zSh S) ∧ (zRs R) ∧ (R 63 0 = some k) ∧ (zDy zT2 zF2 k R S) ∧ (43 ≤ k ∧ k ≤ 52) ∧ (zOB k O I L) ∧ (oGd O) ∧ (zDA d ob I) ∧ (jGd d) ∧ (j = j_ ∧ j_ < ocn O) ∧ (0 ≤ s ∧ s < dns d ∧ dbs d s.toNat = s) ∧ ∀ (I' : ZI), (zDA (oNt O j_ d s) ob I') → (∀ c j : Nat, ¬ (c = 70 ∧ j = 2) → ¬ c = 71 → ¬ (c = 72 ∧ j = 2) → ¬ c = 73 → ¬ (c = 74 ∧ j = 2) → ¬ c = 75 → I' c j = I c j) → Q none I' L R S
theorem sn_C_addN : ZSnd 5 3 0 T_C_addN := ZSnd.of (zT3_0 4) (by
  rintro args I L R S Q hz ⟨k, O, d, ob, j, j_, s, rfl, hS, hR, hob, hD, hk, hO, hG, hDA, hJG, hj, hs, hQ⟩
  obtain ⟨o1, o2, o3, o4⟩ := id hO
  obtain ⟨g1, g2, g3, g4, g5⟩ := id hG
  have hk40 := hD.1
  have hk1 := hk.1
  have hk2 := hk.2
  obtain ⟨hSR, hCS, hWR, hJR, hLR, hPR, hTR⟩ := id hDA
  obtain ⟨⟨g1, g2, g3, g4, g5, g6⟩, gs, gw, gj, gl, gp, gt⟩ := id hJG
  obtain ⟨c1_, c2_, c3_, c4_⟩ := id hSR
  obtain ⟨w1_, w2_, w3_, w4_⟩ := id hWR
  obtain ⟨j1_, j2_, j3_, j4_⟩ := id hJR
  obtain ⟨l1_, l2_, l3_, l4_⟩ := id hLR
  obtain ⟨p1_, p2_, p3_, p4_⟩ := id hPR
  obtain ⟨t1_, t2_, t3_, t4_⟩ := id hTR
  refine And.intro rfl ?_
  refine And.intro (zA_63 hS) (zrdR (v := some k) hob ?_)
  refine And.intro (zDX hD 0 rfl) ⟨_, sn_O_plc.up (by decide), ?_⟩
  refine ⟨k, O, (j : Int), j_, (0 : Int), 0, rfl, hS, hR, hD, (by first | exact (zOB_fr hO (fun c j h => rfl) (fun c j h => rfl)) | (clear hQ; grind [xu])), (by first | exact hG | (clear hQ; grind [xu])), (by omega), (by omega), ?_⟩
  intro v6o p6hv p6bhv2
  refine And.intro (zA_63 hS) (zrdR (v := some k) hob ?_)
  refine And.intro (zDX hD 0 rfl) ⟨_, sn_O_plc.up (by decide), ?_⟩
  refine ⟨k, O, (j : Int), j_, (1 : Int), 1, rfl, hS, hR, hD, (by first | exact (zOB_fr hO (fun c j h => rfl) (fun c j h => rfl)) | (clear hQ; grind [xu])), (by first | exact hG | (clear hQ; grind [xu])), (by omega), (by omega), ?_⟩
  intro v16o p16hv p16bhv2
  refine And.intro (zA_63 hS) (zrdR (v := some k) hob ?_)
  refine And.intro (zDX hD 0 rfl) ⟨_, sn_O_pl.up (by decide), ?_⟩
  refine ⟨k, O, (j : Int), j_, (0 : Int), 0, rfl, hS, hR, hD, (by first | exact (zOB_fr hO (fun c j h => rfl) (fun c j h => rfl)) | (clear hQ; grind [xu])), (by first | exact hG | (clear hQ; grind [xu])), (by omega), (by omega), ?_⟩
  intro v29o p29hv p29bhv2
  refine And.intro (by omega) ⟨fun h32 => ?_, fun h32 => ?_⟩
  · refine And.intro (zA_63 hS) (zrdR (v := some k) hob ?_)
    refine And.intro (zDX hD 0 rfl) (Exists.intro _ (And.intro (zinl_ok (zT2_27 3)) (And.intro rfl ?_)))
    refine And.intro (zRb rfl) (zbf rfl ?_)
    refine And.intro (zDX hD 0 rfl) ⟨_, sn_O_tl.up (by decide), ?_⟩
    refine ⟨k, O, (j : Int), j_, (0 : Int), 0, rfl, hS, hR, hD, (by first | exact (zOB_fr hO (fun c j h => rfl) (fun c j h => rfl)) | (clear hQ; grind [xu])), (by first | exact hG | (clear hQ; grind [xu])), (by omega), (by omega), ?_⟩
    intro v8_71o p8_71hv p8_71bhv2
    refine And.intro ⟨(zRb rfl), (by omega)⟩ ⟨fun h11_71 => ?_, fun h11_71 => ?_⟩
    · refine And.intro ⟨(zRb rfl), (zRb rfl)⟩ (zbt rfl ?_)
      refine And.intro (zRb rfl) (zbt rfl ?_)
      refine And.intro (zA_63 hS) ⟨_, sn_C_nam.up (by decide), ?_⟩
      refine ⟨k, O, (j : Int), j_, (0 : Int), 0, rfl, hS, hR, hob, hD, (by omega), (by first | exact (zOB_fr hO (fun c j h => rfl) (fun c j h => rfl)) | (clear hQ; grind [xu])), (by first | exact hG | (clear hQ; grind [xu])), (by omega), (by omega), ?_⟩
      intro v98o p98hv p98bhv2
      have g98 : v98o = oNm O j_ := (p98hv.trans (oNm_e (by first | exact if_pos ⟨by omega, by omega⟩ | exact if_neg (fun w => by have w1 := w.1; have w2 := w.2; omega))))
      refine And.intro ⟨(by omega), (zRb rfl)⟩ ⟨fun h106 => ?_, fun h106 => ?_⟩
      · refine And.intro (zA_63 hS) (zrdR (v := some 72) (zR_63_6 hR) ?_)
        refine And.intro (zA_72 hS) ⟨_, sn_A_addG.up (by decide), ?_⟩
        refine ⟨72, 60, (dnl d), (dL d), (s : Int), (v6o : Int), (v16o : Int), (v98o : Int), (0 : Int), rfl, hS, hR, (zRw_72 hR hS), hLR, (by omega), ?_⟩
        intro v121o I121o p121hv p121bhT2 p121bbfr
        have g121 : zDA (djLs d s (onm O j_ 0) (onm O j_ 1) (oNm O j_)) ob I121o := by
          rw [← p6hv, ← p16hv, ← g98]
          exact zDA_L hDA p121bhT2 (fun x j h => p121bbfr x j (by omega) (by omega))
        refine And.intro (zRb rfl) (zbt rfl ?_)
        refine hQ _ ?_ (fun c j h0 h1 h2 h3 h4 h5 => ((p121bbfr c j (by omega) (by omega)).trans rfl))
        · rcases p29hv with hpl | hpl
          · have hpl := hpl.2
            rw [oNt_p hpl]
            first
            | (exfalso; omega)
            | (have key : ¬ ∀ p, p < dnj d → ¬ (dJ d p 0 = s ∧ dJ d p 1 = onm O j_ 0 ∧ dJ d p 2 = onm O j_ 1) := by
                 intro w
                 rcases p43hv with q | q
                 · obtain ⟨p, p1, p2⟩ := q.2
                   rw [p6hv, p16hv] at p2
                   exact w p p1 p2
                 · omega
               exact zDA_J0 hDA key)
            | (have key : ∀ p, p < dnj d → ¬ (dJ d p 0 = s ∧ dJ d p 1 = onm O j_ 0 ∧ dJ d p 2 = onm O j_ 1) := by
                 rcases p43hv with q | q
                 · exfalso; omega
                 · rw [p6hv, p16hv] at q
                   exact q.2
               rw [← p6hv, ← p16hv] at key ⊢
               exact zDA_J hDA key p59bhT2 (fun x j h => p59bbfr x j (by omega) (by omega)))
          · have hpl := hpl.2
            first
            | (exfalso; omega)
            | (rw [oNt_0 (d := d) (s := s) hpl (by omega)]
               exact hDA)
            | (rw [oNt_l (d := d) (s := s) hpl (by omega) (fun w => by have w1 := w.1; have w2 : (if 0 < otl O j_ 0 ∧ otc O j_ 0 0 = 94 then 1 else 0) = 1 := w.2; (first | omega | (rw [if_neg (fun z => by have z1 := z.1; have z2 := z.2; omega)] at w2; omega)))]
               exact g121)
            | (have e9 : ((s.toNat : Nat) : Int) = s := (by omega)
               have w := oNt_L (O := O) (k := j_) (d := d) (s := s.toNat) hpl (by omega) ⟨by omega, if_pos ⟨by omega, by omega⟩⟩
               rw [e9] at w p141hDA2
               rw [w]
               exact p141hDA2)
      · refine hQ _ ?_ (fun c j h0 h1 h2 h3 h4 h5 => rfl)
        · rcases p29hv with hpl | hpl
          · have hpl := hpl.2
            rw [oNt_p hpl]
            first
            | (exfalso; omega)
            | (have key : ¬ ∀ p, p < dnj d → ¬ (dJ d p 0 = s ∧ dJ d p 1 = onm O j_ 0 ∧ dJ d p 2 = onm O j_ 1) := by
                 intro w
                 rcases p43hv with q | q
                 · obtain ⟨p, p1, p2⟩ := q.2
                   rw [p6hv, p16hv] at p2
                   exact w p p1 p2
                 · omega
               exact zDA_J0 hDA key)
            | (have key : ∀ p, p < dnj d → ¬ (dJ d p 0 = s ∧ dJ d p 1 = onm O j_ 0 ∧ dJ d p 2 = onm O j_ 1) := by
                 rcases p43hv with q | q
                 · exfalso; omega
                 · rw [p6hv, p16hv] at q
                   exact q.2
               rw [← p6hv, ← p16hv] at key ⊢
               exact zDA_J hDA key p59bhT2 (fun x j h => p59bbfr x j (by omega) (by omega)))
          · have hpl := hpl.2
            first
            | (exfalso; omega)
            | (rw [oNt_0 (d := d) (s := s) hpl (by omega)]
               exact hDA)
            | (rw [oNt_l (d := d) (s := s) hpl (by omega) (fun w => by have w1 := w.1; have w2 : (if 0 < otl O j_ 0 ∧ otc O j_ 0 0 = 94 then 1 else 0) = 1 := w.2; (first | omega | (rw [if_neg (fun z => by have z1 := z.1; have z2 := z.2; omega)] at w2; omega)))]
               exact g121)
            | (have e9 : ((s.toNat : Nat) : Int) = s := (by omega)
               have w := oNt_L (O := O) (k := j_) (d := d) (s := s.toNat) hpl (by omega) ⟨by omega, if_pos ⟨by omega, by omega⟩⟩
               rw [e9] at w p141hDA2
               rw [w]
               exact p141hDA2)
    · refine And.intro (zDX hD 0 rfl) ⟨_, sn_O_let.up (by decide), ?_⟩
      refine ⟨k, O, (j : Int), j_, (0 : Int), 0, (0 : Int), 0, rfl, hS, hR, hD, (by first | exact (zOB_fr hO (fun c j h => rfl) (fun c j h => rfl)) | (clear hQ; grind [xu])), (by first | exact hG | (clear hQ; grind [xu])), (by omega), (by omega), (by omega), ?_⟩
      intro v18_71o p18_71hv p18_71bhv2
      refine And.intro ⟨(by omega), (zRb rfl)⟩ ⟨fun h76 => ?_, fun h76 => ?_⟩
      · refine And.intro (zRb rfl) (zbt rfl ?_)
        refine And.intro (zA_63 hS) ⟨_, sn_C_nam.up (by decide), ?_⟩
        refine ⟨k, O, (j : Int), j_, (0 : Int), 0, rfl, hS, hR, hob, hD, (by omega), (by first | exact (zOB_fr hO (fun c j h => rfl) (fun c j h => rfl)) | (clear hQ; grind [xu])), (by first | exact hG | (clear hQ; grind [xu])), (by omega), (by omega), ?_⟩
        intro v98o p98hv p98bhv2
        have g98 : v98o = oNm O j_ := (p98hv.trans (oNm_e (by first | exact if_pos ⟨by omega, by omega⟩ | exact if_neg (fun w => by have w1 := w.1; have w2 := w.2; omega))))
        refine And.intro ⟨(by omega), (zRb rfl)⟩ ⟨fun h106 => ?_, fun h106 => ?_⟩
        · refine And.intro (zA_63 hS) (zrdR (v := some 72) (zR_63_6 hR) ?_)
          refine And.intro (zA_72 hS) ⟨_, sn_A_addG.up (by decide), ?_⟩
          refine ⟨72, 60, (dnl d), (dL d), (s : Int), (v6o : Int), (v16o : Int), (v98o : Int), (0 : Int), rfl, hS, hR, (zRw_72 hR hS), hLR, (by omega), ?_⟩
          intro v121o I121o p121hv p121bhT2 p121bbfr
          have g121 : zDA (djLs d s (onm O j_ 0) (onm O j_ 1) (oNm O j_)) ob I121o := by
            rw [← p6hv, ← p16hv, ← g98]
            exact zDA_L hDA p121bhT2 (fun x j h => p121bbfr x j (by omega) (by omega))
          refine And.intro (zRb rfl) (zbt rfl ?_)
          refine hQ _ ?_ (fun c j h0 h1 h2 h3 h4 h5 => ((p121bbfr c j (by omega) (by omega)).trans rfl))
          · rcases p29hv with hpl | hpl
            · have hpl := hpl.2
              rw [oNt_p hpl]
              first
              | (exfalso; omega)
              | (have key : ¬ ∀ p, p < dnj d → ¬ (dJ d p 0 = s ∧ dJ d p 1 = onm O j_ 0 ∧ dJ d p 2 = onm O j_ 1) := by
                   intro w
                   rcases p43hv with q | q
                   · obtain ⟨p, p1, p2⟩ := q.2
                     rw [p6hv, p16hv] at p2
                     exact w p p1 p2
                   · omega
                 exact zDA_J0 hDA key)
              | (have key : ∀ p, p < dnj d → ¬ (dJ d p 0 = s ∧ dJ d p 1 = onm O j_ 0 ∧ dJ d p 2 = onm O j_ 1) := by
                   rcases p43hv with q | q
                   · exfalso; omega
                   · rw [p6hv, p16hv] at q
                     exact q.2
                 rw [← p6hv, ← p16hv] at key ⊢
                 exact zDA_J hDA key p59bhT2 (fun x j h => p59bbfr x j (by omega) (by omega)))
            · have hpl := hpl.2
              first
              | (exfalso; omega)
              | (rw [oNt_0 (d := d) (s := s) hpl (by omega)]
                 exact hDA)
              | (rw [oNt_l (d := d) (s := s) hpl (by omega) (fun w => by have w1 := w.1; have w2 : (if 0 < otl O j_ 0 ∧ otc O j_ 0 0 = 94 then 1 else 0) = 1 := w.2; (first | omega | (rw [if_neg (fun z => by have z1 := z.1; have z2 := z.2; omega)] at w2; omega)))]
                 exact g121)
              | (have e9 : ((s.toNat : Nat) : Int) = s := (by omega)
                 have w := oNt_L (O := O) (k := j_) (d := d) (s := s.toNat) hpl (by omega) ⟨by omega, if_pos ⟨by omega, by omega⟩⟩
                 rw [e9] at w p141hDA2
                 rw [w]
                 exact p141hDA2)
        · refine hQ _ ?_ (fun c j h0 h1 h2 h3 h4 h5 => rfl)
          · rcases p29hv with hpl | hpl
            · have hpl := hpl.2
              rw [oNt_p hpl]
              first
              | (exfalso; omega)
              | (have key : ¬ ∀ p, p < dnj d → ¬ (dJ d p 0 = s ∧ dJ d p 1 = onm O j_ 0 ∧ dJ d p 2 = onm O j_ 1) := by
                   intro w
                   rcases p43hv with q | q
                   · obtain ⟨p, p1, p2⟩ := q.2
                     rw [p6hv, p16hv] at p2
                     exact w p p1 p2
                   · omega
                 exact zDA_J0 hDA key)
              | (have key : ∀ p, p < dnj d → ¬ (dJ d p 0 = s ∧ dJ d p 1 = onm O j_ 0 ∧ dJ d p 2 = onm O j_ 1) := by
                   rcases p43hv with q | q
                   · exfalso; omega
                   · rw [p6hv, p16hv] at q
                     exact q.2
                 rw [← p6hv, ← p16hv] at key ⊢
                 exact zDA_J hDA key p59bhT2 (fun x j h => p59bbfr x j (by omega) (by omega)))
            · have hpl := hpl.2
              first
              | (exfalso; omega)
              | (rw [oNt_0 (d := d) (s := s) hpl (by omega)]
                 exact hDA)
              | (rw [oNt_l (d := d) (s := s) hpl (by omega) (fun w => by have w1 := w.1; have w2 : (if 0 < otl O j_ 0 ∧ otc O j_ 0 0 = 94 then 1 else 0) = 1 := w.2; (first | omega | (rw [if_neg (fun z => by have z1 := z.1; have z2 := z.2; omega)] at w2; omega)))]
                 exact g121)
              | (have e9 : ((s.toNat : Nat) : Int) = s := (by omega)
                 have w := oNt_L (O := O) (k := j_) (d := d) (s := s.toNat) hpl (by omega) ⟨by omega, if_pos ⟨by omega, by omega⟩⟩
                 rw [e9] at w p141hDA2
                 rw [w]
                 exact p141hDA2)
      · refine And.intro (zRb rfl) (zbf rfl ?_)
        refine And.intro (zA_63 hS) ⟨_, sn_C_nam.up (by decide), ?_⟩
        refine ⟨k, O, (j : Int), j_, (1 : Int), 1, rfl, hS, hR, hob, hD, (by omega), (by first | exact (zOB_fr hO (fun c j h => rfl) (fun c j h => rfl)) | (clear hQ; grind [xu])), (by first | exact hG | (clear hQ; grind [xu])), (by omega), (by omega), ?_⟩
        intro v98o p98hv p98bhv2
        have g98 : v98o = oNm O j_ := (p98hv.trans (oNm_e (by first | exact if_pos ⟨by omega, by omega⟩ | exact if_neg (fun w => by have w1 := w.1; have w2 := w.2; omega))))
        refine And.intro ⟨(by omega), (zRb rfl)⟩ ⟨fun h106 => ?_, fun h106 => ?_⟩
        · refine And.intro (zA_63 hS) (zrdR (v := some 72) (zR_63_6 hR) ?_)
          refine And.intro (zA_72 hS) ⟨_, sn_A_addG.up (by decide), ?_⟩
          refine ⟨72, 60, (dnl d), (dL d), (s : Int), (v6o : Int), (v16o : Int), (v98o : Int), (0 : Int), rfl, hS, hR, (zRw_72 hR hS), hLR, (by omega), ?_⟩
          intro v121o I121o p121hv p121bhT2 p121bbfr
          have g121 : zDA (djLs d s (onm O j_ 0) (onm O j_ 1) (oNm O j_)) ob I121o := by
            rw [← p6hv, ← p16hv, ← g98]
            exact zDA_L hDA p121bhT2 (fun x j h => p121bbfr x j (by omega) (by omega))
          refine And.intro (zRb rfl) (zbf rfl ?_)
          refine And.intro ⟨(by omega), (zRb rfl)⟩ ⟨fun h134 => ?_, fun h134 => ?_⟩
          · refine hQ _ ?_ (fun c j h0 h1 h2 h3 h4 h5 => ((p121bbfr c j (by omega) (by omega)).trans rfl))
            · rcases p29hv with hpl | hpl
              · have hpl := hpl.2
                rw [oNt_p hpl]
                first
                | (exfalso; omega)
                | (have key : ¬ ∀ p, p < dnj d → ¬ (dJ d p 0 = s ∧ dJ d p 1 = onm O j_ 0 ∧ dJ d p 2 = onm O j_ 1) := by
                     intro w
                     rcases p43hv with q | q
                     · obtain ⟨p, p1, p2⟩ := q.2
                       rw [p6hv, p16hv] at p2
                       exact w p p1 p2
                     · omega
                   exact zDA_J0 hDA key)
                | (have key : ∀ p, p < dnj d → ¬ (dJ d p 0 = s ∧ dJ d p 1 = onm O j_ 0 ∧ dJ d p 2 = onm O j_ 1) := by
                     rcases p43hv with q | q
                     · exfalso; omega
                     · rw [p6hv, p16hv] at q
                       exact q.2
                   rw [← p6hv, ← p16hv] at key ⊢
                   exact zDA_J hDA key p59bhT2 (fun x j h => p59bbfr x j (by omega) (by omega)))
              · have hpl := hpl.2
                first
                | (exfalso; omega)
                | (rw [oNt_0 (d := d) (s := s) hpl (by omega)]
                   exact hDA)
                | (rw [oNt_l (d := d) (s := s) hpl (by omega) (fun w => by have w1 := w.1; have w2 : (if 0 < otl O j_ 0 ∧ otc O j_ 0 0 = 94 then 1 else 0) = 1 := w.2; (first | omega | (rw [if_neg (fun z => by have z1 := z.1; have z2 := z.2; omega)] at w2; omega)))]
                   exact g121)
                | (have e9 : ((s.toNat : Nat) : Int) = s := (by omega)
                   have w := oNt_L (O := O) (k := j_) (d := d) (s := s.toNat) hpl (by omega) ⟨by omega, if_pos ⟨by omega, by omega⟩⟩
                   rw [e9] at w p141hDA2
                   rw [w]
                   exact p141hDA2)
          · refine And.intro (zA_63 hS) ⟨_, sn_C_prts.up (by decide), ?_⟩
            refine ⟨(djLs d s (onm O j_ 0) (onm O j_ 1) (oNm O j_)), ob, (v121o : Int), (dnl d), (s : Int), s.toNat, rfl, hS, hR, g121, (jGd_Ls hJG ⟨hs, jFar_2 (by omega), jFar_2 (by omega), by omega, by omega⟩), ⟨by omega, by rw [djLs_n (by omega)]; exact Nat.lt_succ_self (dnl d)⟩, (by have e : (djLs d s (onm O j_ 0) (onm O j_ 1) (oNm O j_)).1 = d.1 := djLs_s.1; have e1 : dbs (djLs d s (onm O j_ 0) (onm O j_ 1) (oNm O j_)) = dbs d := congrArg (fun z => z.2.1) e; have e2 : dns (djLs d s (onm O j_ 0) (onm O j_ 1) (oNm O j_)) = dns d := congrArg (fun z => z.1) e; rw [e1, e2]; omega), (by rw [djLs_n (by omega)]; exact (if_pos rfl : upR (dL d) (dnl d) s (onm O j_ 0) (onm O j_ 1) (oNm O j_) 0 (dnl d) 0 = s).trans (by omega)), ?_⟩
            intro I141o p141hDA2 p141bfr
            refine hQ _ ?_ (fun c j h0 h1 h2 h3 h4 h5 => ((p141bfr c j (by omega) (by omega)).trans ((p121bbfr c j (by omega) (by omega)).trans rfl)))
            · rcases p29hv with hpl | hpl
              · have hpl := hpl.2
                rw [oNt_p hpl]
                first
                | (exfalso; omega)
                | (have key : ¬ ∀ p, p < dnj d → ¬ (dJ d p 0 = s ∧ dJ d p 1 = onm O j_ 0 ∧ dJ d p 2 = onm O j_ 1) := by
                     intro w
                     rcases p43hv with q | q
                     · obtain ⟨p, p1, p2⟩ := q.2
                       rw [p6hv, p16hv] at p2
                       exact w p p1 p2
                     · omega
                   exact zDA_J0 hDA key)
                | (have key : ∀ p, p < dnj d → ¬ (dJ d p 0 = s ∧ dJ d p 1 = onm O j_ 0 ∧ dJ d p 2 = onm O j_ 1) := by
                     rcases p43hv with q | q
                     · exfalso; omega
                     · rw [p6hv, p16hv] at q
                       exact q.2
                   rw [← p6hv, ← p16hv] at key ⊢
                   exact zDA_J hDA key p59bhT2 (fun x j h => p59bbfr x j (by omega) (by omega)))
              · have hpl := hpl.2
                first
                | (exfalso; omega)
                | (rw [oNt_0 (d := d) (s := s) hpl (by omega)]
                   exact hDA)
                | (rw [oNt_l (d := d) (s := s) hpl (by omega) (fun w => by have w1 := w.1; have w2 : (if 0 < otl O j_ 0 ∧ otc O j_ 0 0 = 94 then 1 else 0) = 1 := w.2; (first | omega | (rw [if_neg (fun z => by have z1 := z.1; have z2 := z.2; omega)] at w2; omega)))]
                   exact g121)
                | (have e9 : ((s.toNat : Nat) : Int) = s := (by omega)
                   have w := oNt_L (O := O) (k := j_) (d := d) (s := s.toNat) hpl (by omega) ⟨by omega, if_pos ⟨by omega, by omega⟩⟩
                   rw [e9] at w p141hDA2
                   rw [w]
                   exact p141hDA2)
        · refine hQ _ ?_ (fun c j h0 h1 h2 h3 h4 h5 => rfl)
          · rcases p29hv with hpl | hpl
            · have hpl := hpl.2
              rw [oNt_p hpl]
              first
              | (exfalso; omega)
              | (have key : ¬ ∀ p, p < dnj d → ¬ (dJ d p 0 = s ∧ dJ d p 1 = onm O j_ 0 ∧ dJ d p 2 = onm O j_ 1) := by
                   intro w
                   rcases p43hv with q | q
                   · obtain ⟨p, p1, p2⟩ := q.2
                     rw [p6hv, p16hv] at p2
                     exact w p p1 p2
                   · omega
                 exact zDA_J0 hDA key)
              | (have key : ∀ p, p < dnj d → ¬ (dJ d p 0 = s ∧ dJ d p 1 = onm O j_ 0 ∧ dJ d p 2 = onm O j_ 1) := by
                   rcases p43hv with q | q
                   · exfalso; omega
                   · rw [p6hv, p16hv] at q
                     exact q.2
                 rw [← p6hv, ← p16hv] at key ⊢
                 exact zDA_J hDA key p59bhT2 (fun x j h => p59bbfr x j (by omega) (by omega)))
            · have hpl := hpl.2
              first
              | (exfalso; omega)
              | (rw [oNt_0 (d := d) (s := s) hpl (by omega)]
                 exact hDA)
              | (rw [oNt_l (d := d) (s := s) hpl (by omega) (fun w => by have w1 := w.1; have w2 : (if 0 < otl O j_ 0 ∧ otc O j_ 0 0 = 94 then 1 else 0) = 1 := w.2; (first | omega | (rw [if_neg (fun z => by have z1 := z.1; have z2 := z.2; omega)] at w2; omega)))]
                 exact g121)
              | (have e9 : ((s.toNat : Nat) : Int) = s := (by omega)
                 have w := oNt_L (O := O) (k := j_) (d := d) (s := s.toNat) hpl (by omega) ⟨by omega, if_pos ⟨by omega, by omega⟩⟩
                 rw [e9] at w p141hDA2
                 rw [w]
                 exact p141hDA2)
  · refine And.intro (zA_63 hS) (zrdR (v := some 70) (zR_63_5 hR) ?_)
    refine ⟨_, sn_C_hasj.up (by decide), ?_⟩
    refine ⟨d, ob, (s : Int), (v6o : Int), (v16o : Int), rfl, hS, hR, (by first | exact (zDA_fr hDA (fun c j h => rfl)) | exact (zDA_fr hDA (fun c j h => rfl)) | (clear hQ; grind [xu])), (by first | exact hJG | (clear hQ; grind [xu])), (by omega), ?_⟩
    intro v43o p43hv p43bhv2
    refine And.intro (by omega) ⟨fun h46 => ?_, fun h46 => ?_⟩
    · refine hQ _ ?_ (fun c j h0 h1 h2 h3 h4 h5 => rfl)
      · rcases p29hv with hpl | hpl
        · have hpl := hpl.2
          rw [oNt_p hpl]
          first
          | (exfalso; omega)
          | (have key : ¬ ∀ p, p < dnj d → ¬ (dJ d p 0 = s ∧ dJ d p 1 = onm O j_ 0 ∧ dJ d p 2 = onm O j_ 1) := by
               intro w
               rcases p43hv with q | q
               · obtain ⟨p, p1, p2⟩ := q.2
                 rw [p6hv, p16hv] at p2
                 exact w p p1 p2
               · omega
             exact zDA_J0 hDA key)
          | (have key : ∀ p, p < dnj d → ¬ (dJ d p 0 = s ∧ dJ d p 1 = onm O j_ 0 ∧ dJ d p 2 = onm O j_ 1) := by
               rcases p43hv with q | q
               · exfalso; omega
               · rw [p6hv, p16hv] at q
                 exact q.2
             rw [← p6hv, ← p16hv] at key ⊢
             exact zDA_J hDA key p59bhT2 (fun x j h => p59bbfr x j (by omega) (by omega)))
        · have hpl := hpl.2
          first
          | (exfalso; omega)
          | (rw [oNt_0 (d := d) (s := s) hpl (by omega)]
             exact hDA)
          | (rw [oNt_l (d := d) (s := s) hpl (by omega) (fun w => by have w1 := w.1; have w2 : (if 0 < otl O j_ 0 ∧ otc O j_ 0 0 = 94 then 1 else 0) = 1 := w.2; (first | omega | (rw [if_neg (fun z => by have z1 := z.1; have z2 := z.2; omega)] at w2; omega)))]
             exact g121)
          | (have e9 : ((s.toNat : Nat) : Int) = s := (by omega)
             have w := oNt_L (O := O) (k := j_) (d := d) (s := s.toNat) hpl (by omega) ⟨by omega, if_pos ⟨by omega, by omega⟩⟩
             rw [e9] at w p141hDA2
             rw [w]
             exact p141hDA2)
    · refine And.intro (zA_63 hS) (zrdR (v := some 70) (zR_63_5 hR) ?_)
      refine And.intro (zA_70 hS) ⟨_, sn_A_addG.up (by decide), ?_⟩
      refine ⟨70, 50, (dnj d), (dJ d), (s : Int), (v6o : Int), (v16o : Int), (0 : Int), (0 : Int), rfl, hS, hR, (zRw_70 hR hS), hJR, (by omega), ?_⟩
      intro v59o I59o p59hv p59bhT2 p59bbfr
      refine hQ _ ?_ (fun c j h0 h1 h2 h3 h4 h5 => ((p59bbfr c j (by omega) (by omega)).trans rfl))
      · rcases p29hv with hpl | hpl
        · have hpl := hpl.2
          rw [oNt_p hpl]
          first
          | (exfalso; omega)
          | (have key : ¬ ∀ p, p < dnj d → ¬ (dJ d p 0 = s ∧ dJ d p 1 = onm O j_ 0 ∧ dJ d p 2 = onm O j_ 1) := by
               intro w
               rcases p43hv with q | q
               · obtain ⟨p, p1, p2⟩ := q.2
                 rw [p6hv, p16hv] at p2
                 exact w p p1 p2
               · omega
             exact zDA_J0 hDA key)
          | (have key : ∀ p, p < dnj d → ¬ (dJ d p 0 = s ∧ dJ d p 1 = onm O j_ 0 ∧ dJ d p 2 = onm O j_ 1) := by
               rcases p43hv with q | q
               · exfalso; omega
               · rw [p6hv, p16hv] at q
                 exact q.2
             rw [← p6hv, ← p16hv] at key ⊢
             exact zDA_J hDA key p59bhT2 (fun x j h => p59bbfr x j (by omega) (by omega)))
        · have hpl := hpl.2
          first
          | (exfalso; omega)
          | (rw [oNt_0 (d := d) (s := s) hpl (by omega)]
             exact hDA)
          | (rw [oNt_l (d := d) (s := s) hpl (by omega) (fun w => by have w1 := w.1; have w2 : (if 0 < otl O j_ 0 ∧ otc O j_ 0 0 = 94 then 1 else 0) = 1 := w.2; (first | omega | (rw [if_neg (fun z => by have z1 := z.1; have z2 := z.2; omega)] at w2; omega)))]
             exact g121)
          | (have e9 : ((s.toNat : Nat) : Int) = s := (by omega)
             have w := oNt_L (O := O) (k := j_) (d := d) (s := s.toNat) hpl (by omega) ⟨by omega, if_pos ⟨by omega, by omega⟩⟩
             rw [e9] at w p141hDA2
             rw [w]
             exact p141hDA2))
