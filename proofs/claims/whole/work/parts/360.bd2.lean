/-! bd2 -/
def T_A_hby : ZT := fun args I L R S Q => ∃ (a : Int) (n : Int) (c : Nat) (h : Int), args = [zvr 82, zvi a, zvi n] ∧ (zSh S) ∧ (zRs R) ∧ (a = c ∧ c < 1024) ∧ (I 86 c = h) ∧ (r32 n) ∧ ∀ (v : Int), ((v = 1 ∧ h ≠ -1 ∧ h ≠ n) ∨ (v = 0 ∧ (h = -1 ∨ h = n))) → Q (some (zvi (v))) I L R S
theorem sn_A_hby : ZSnd 1 0 11 T_A_hby := ZSnd.of (zT0_11 0) (by
  rintro args I L R S Q hz ⟨a, n, c, h, rfl, hS, hR, ha, hh, hr, hQ⟩
  refine And.intro rfl ?_
  refine And.intro (zA_82 hS) (zrdR (v := some 86) (zR_82_8 hR) ?_)
  refine And.intro (zP_86 hS (by omega) (by omega)) (fun v5 e5 r5 => ?_)
  have f5 : v5 = h := (e5.trans ((congrArg (I 86) (by omega)).trans hh))
  refine And.intro ⟨r5, (zRb rfl)⟩ ⟨fun h7 => ?_, fun h7 => ?_⟩
  · refine And.intro (Or.inl rfl) ?_
    refine hQ _ (by omega)
  · refine And.intro (zA_82 hS) (zrdR (v := some 86) (zR_82_8 hR) ?_)
    refine And.intro (zP_86 hS (by omega) (by omega)) (fun v15 e15 r15 => ?_)
    have f15 : v15 = h := (e15.trans ((congrArg (I 86) (by omega)).trans hh))
    refine And.intro ⟨r15, (by omega)⟩ ⟨fun h17 => ?_, fun h17 => ?_⟩
    · refine And.intro (Or.inl rfl) ?_
      refine hQ _ (by omega)
    · refine And.intro (Or.inr rfl) ?_
      refine hQ _ (by omega))
def T_A_led : ZT := fun args I L R S Q => ∃ (b : Nat) (s : BdS) (n : Int), args = [zvr 82, zvi n] ∧ (zSh S) ∧ (zRs R) ∧ (zBA b s I L) ∧ (r32 n) ∧ ∀ (v : Int), ((v = 1 ∧ 0 ≤ n ∧ n < bnn s ∧ bN s n.toNat 2 = 1) ∨ (v = 0 ∧ ¬ (0 ≤ n ∧ n < bnn s ∧ bN s n.toNat 2 = 1))) → Q (some (zvi (v))) I L R S
theorem sn_A_led : ZSnd 2 0 12 T_A_led := ZSnd.of (zT0_12 1) (by
  rintro args I L R S Q hz ⟨b, s, n, rfl, hS, hR, hBA, hr, hQ⟩
  obtain ⟨⟨hb0, hbw, hbh, hbd, hbs⟩, hnb, hcl, hPT, hNT, hwy, hco, hnd⟩ := id hBA
  obtain ⟨hP1, hP2, hP3, hP4⟩ := id hPT
  obtain ⟨hN1, hN2, hN3, hN4⟩ := id hNT
  refine And.intro rfl ?_
  refine And.intro (zA_82 hS) (zrdR (v := some 90) (zR_82_11 hR) ?_)
  refine And.intro (zA_90 hS) ⟨_, sn_A_atG.up (by decide), ?_⟩
  refine ⟨_, _, _, _, (n : Int), (2 : Int), rfl, hS, hR, (zRw_90 hR hS), (by first | exact (zRT_fr hNT (fun c j h => rfl)) | (clear hQ; grind [xu])), (by omega), ?_⟩
  intro v6o p6hv p6bhr
  refine And.intro ⟨(by omega), (zRb rfl)⟩ ⟨fun h10 => ?_, fun h10 => ?_⟩
  · refine And.intro (Or.inl rfl) ?_
    refine hQ _ (by rcases p6hv with w | w; have e : bN s n.toNat (2 : Int).toNat = bN s n.toNat 2 := rfl; omega; omega)
  · refine And.intro (Or.inr rfl) ?_
    refine hQ _ (by rcases p6hv with w | w; have e : bN s n.toNat (2 : Int).toNat = bN s n.toNat 2 := rfl; omega; omega))
def T_A_open : ZT := fun args I L R S Q => ∃ (b : Nat) (s : BdS) (n : Int), args = [zvr 82, zvi n] ∧ (zSh S) ∧ (zRs R) ∧ (zBA b s I L) ∧ (r32 n) ∧ ∀ (v : Int), ((v = 1 ∧ 0 ≤ n ∧ n < bnn s ∧ 0 < bN s n.toNat 1 ∧ bN s n.toNat 2 ≠ 1) ∨ (v = 0 ∧ ¬ (0 ≤ n ∧ n < bnn s ∧ 0 < bN s n.toNat 1 ∧ bN s n.toNat 2 ≠ 1))) → Q (some (zvi (v))) I L R S
theorem sn_A_open : ZSnd 3 0 13 T_A_open := ZSnd.of (zT0_13 2) (by
  rintro args I L R S Q hz ⟨b, s, n, rfl, hS, hR, hBA, hr, hQ⟩
  obtain ⟨⟨hb0, hbw, hbh, hbd, hbs⟩, hnb, hcl, hPT, hNT, hwy, hco, hnd⟩ := id hBA
  obtain ⟨hP1, hP2, hP3, hP4⟩ := id hPT
  obtain ⟨hN1, hN2, hN3, hN4⟩ := id hNT
  refine And.intro rfl ?_
  refine And.intro (zA_82 hS) (zrdR (v := some 90) (zR_82_11 hR) ?_)
  refine And.intro (zA_90 hS) ⟨_, sn_A_atG.up (by decide), ?_⟩
  refine ⟨_, _, _, _, (n : Int), (1 : Int), rfl, hS, hR, (zRw_90 hR hS), (by first | exact (zRT_fr hNT (fun c j h => rfl)) | (clear hQ; grind [xu])), (by omega), ?_⟩
  intro v6o p6hv p6bhr
  refine And.intro (by omega) ⟨fun h9 => ?_, fun h9 => ?_⟩
  · refine And.intro (Or.inl rfl) ?_
    refine hQ _ (by have e : bN s n.toNat (1 : Int).toNat = bN s n.toNat 1 := rfl; rcases p6hv with w | w <;> omega)
  · refine And.intro (zA_82 hS) ⟨_, sn_A_led.up (by decide), ?_⟩
    refine ⟨_, _, (n : Int), rfl, hS, hR, (by first | exact (zBA_fr hBA (fun c j h => rfl) (fun c j h => rfl)) | (clear hQ; grind [xu])), (by omega), ?_⟩
    intro v14o p14hv
    refine And.intro (by omega) ⟨fun h17 => ?_, fun h17 => ?_⟩
    · refine And.intro (Or.inl rfl) ?_
      refine hQ _ (by have e : bN s n.toNat (1 : Int).toNat = bN s n.toNat 1 := rfl; rcases p6hv with w | w <;> omega)
    · refine And.intro (Or.inr rfl) ?_
      refine hQ _ (by have e : bN s n.toNat (1 : Int).toNat = bN s n.toNat 1 := rfl; rcases p6hv with w | w <;> omega))
def T_A_opens : ZT := fun args I L R S Q => ∃ (b : Nat) (s : BdS), args = [zvr 82] ∧ (zSh S) ∧ (zRs R) ∧ (zBA b s I L) ∧ ∀ (v : Int), (v = bOpn s (bnn s)) → Q (some (zvi (v))) I L R S
theorem sn_A_opens : ZSnd 4 0 17 T_A_opens := ZSnd.loops (zT0_17 3) (by
  rintro args I L R S Q hz ⟨b, s, rfl, hS, hR, hBA, hQ⟩
  obtain ⟨⟨hb0, hbw, hbh, hbd, hbs⟩, hnb, hcl, hPT, hNT, hwy, hco, hnd⟩ := id hBA
  obtain ⟨hP1, hP2, hP3, hP4⟩ := id hPT
  obtain ⟨hN1, hN2, hN3, hN4⟩ := id hNT
  refine ⟨[4], fun nM tM lsM stM I1 L1 R1 S1 => match tM with
      | 4 => ∃ (k : Nat), nM = ((13 - k), 0, 0) ∧ lsM = [some (zvr (82)), some (zvi (bOpn s k)), some (zvi (k))] ∧ stM = [] ∧ I1 = I ∧ L1 = L ∧ R1 = R ∧ S1 = S ∧ (k ≤ bnn s)
      | _ => False, rfl, ?_, ⟨?_, True.intro⟩⟩
  · refine ⟨((13 - (0 : Nat)), 0, 0), [some (zvr (82)), some (zvi (bOpn s (0 : Nat))), some (zvi ((0 : Nat)))], ⟨rfl, (congrArg (fun z => some (zvi z)) rfl), rfl, rfl⟩, 0, rfl, rfl, rfl, rfl, rfl, rfl, rfl, (by omega)⟩
  · rintro nM lsM stM I1 L1 R1 S1 hz1 ⟨k, rfl, rfl, rfl, rfl, rfl, rfl, rfl, hk⟩
    have hle := bOpn_le s k
    have hsx : bOpn s (k + 1) = bOpn s k + (if 0 < bN s k 1 ∧ bN s k 2 ≠ 1 then 1 else 0) := rfl
    refine And.intro (zA_82 hS) (zrdR (v := some 90) (zR_82_11 hR) ?_)
    refine And.intro (zA_90 hS) (zrd (v := (bnn s)) hN2 ?_)
    refine And.intro ⟨(by omega), (by omega)⟩ ⟨fun h12 => ?_, fun h12 => ?_⟩
    · refine hQ _ (by obtain rfl : k = bnn s := (by omega); rfl)
    · refine And.intro (zA_82 hS) ⟨_, sn_A_open.up (by decide), ?_⟩
      refine ⟨b, s, (k : Int), rfl, hS, hR, (by first | exact (zBA_fr hBA (fun c j h => rfl) (fun c j h => rfl)) | (clear hQ; grind [xu])), (by omega), ?_⟩
      intro v17o p17hv
      refine And.intro (by omega) ⟨fun h20 => ?_, fun h20 => ?_⟩
      · refine ⟨((13 - (k + 1)), 0, 0), zlt6 (by omega), [some (zvr (82)), some (zvi (bOpn s (k + 1))), some (zvi ((k + 1)))], ⟨rfl, (congrArg (fun z => some (zvi z)) (by
  rcases p17hv with w | w
  · first
    | (exfalso; omega)
    | (rw [hsx, if_pos ⟨w.2.2.2.1, w.2.2.2.2⟩]; rfl)
  · first
    | (exfalso; omega)
    | (rw [hsx, if_neg (fun q => w.2 ⟨by omega, by omega, q.1, q.2⟩)]; rfl))), rfl, rfl⟩, (k + 1), rfl, rfl, rfl, rfl, rfl, rfl, rfl, (by omega)⟩
      · refine ⟨((13 - (k + 1)), 0, 0), zlt6 (by omega), [some (zvr (82)), some (zvi (bOpn s (k + 1))), some (zvi ((k + 1)))], ⟨rfl, (congrArg (fun z => some (zvi z)) (by
  rcases p17hv with w | w
  · first
    | (exfalso; omega)
    | (rw [hsx, if_pos ⟨w.2.2.2.1, w.2.2.2.2⟩]; rfl)
  · first
    | (exfalso; omega)
    | (rw [hsx, if_neg (fun q => w.2 ⟨by omega, by omega, q.1, q.2⟩)]; rfl))), rfl, rfl⟩, (k + 1), rfl, rfl, rfl, rfl, rfl, rfl, rfl, (by omega)⟩)
def T_A_hasPad : ZT := fun args I L R S Q => ∃ (b : Nat) (s : BdS) (t : Int) (o : Int), args = [zvr 82, zvi t, zvi o] ∧ (zSh S) ∧ (zRs R) ∧ (zBA b s I L) ∧ (r32 t ∧ r32 o) ∧ ∀ (v : Int), ((v = 1 ∧ zex (fun p => p < bnp s ∧ bP s p 0 = t ∧ bP s p 1 = o)) ∨ (v = 0 ∧ ∀ p : Nat, p < bnp s → ¬ (bP s p 0 = t ∧ bP s p 1 = o))) → Q (some (zvi (v))) I L R S
theorem sn_A_hasPad : ZSnd 2 0 9 T_A_hasPad := ZSnd.loops (zT0_9 1) (by
  rintro args I L R S Q hz ⟨b, s, t, o, rfl, hS, hR, hBA, hr, hQ⟩
  obtain ⟨⟨hb0, hbw, hbh, hbd, hbs⟩, hnb, hcl, hPT, hNT, hwy, hco, hnd⟩ := id hBA
  obtain ⟨hP1, hP2, hP3, hP4⟩ := id hPT
  obtain ⟨hN1, hN2, hN3, hN4⟩ := id hNT
  refine ⟨[5], fun nM tM lsM stM I1 L1 R1 S1 => match tM with
      | 5 => ∃ (u : Int) (p : Nat), nM = ((41 - p), 0, 0) ∧ lsM = [some (zvr (82)), some (zvi (t)), some (zvi (o)), some (zvi (u)), some (zvi (p))] ∧ stM = [] ∧ I1 = I ∧ L1 = L ∧ R1 = R ∧ S1 = S ∧ (p ≤ bnp s) ∧ (u = 0 ∨ u = 1) ∧ (u = 1 → zex (fun p => p < bnp s ∧ bP s p 0 = t ∧ bP s p 1 = o)) ∧ (u = 0 → ∀ q : Nat, q < p → ¬ (bP s q 0 = t ∧ bP s q 1 = o))
      | _ => False, rfl, ?_, ⟨?_, True.intro⟩⟩
  · refine ⟨((41 - (0 : Nat)), 0, 0), [some (zvr (82)), some (zvi (t)), some (zvi (o)), some (zvi ((0 : Int))), some (zvi ((0 : Nat)))], ⟨rfl, rfl, rfl, rfl, rfl, rfl⟩, 0, 0, rfl, rfl, rfl, rfl, rfl, rfl, rfl, (by omega), (Or.inl rfl), (fun h => absurd h (by decide)), (fun _ q h => absurd h (Nat.not_lt_zero q))⟩
  · rintro nM lsM stM I1 L1 R1 S1 hz1 ⟨u, p, rfl, rfl, rfl, rfl, rfl, rfl, rfl, hp, hu0, hu1, hu2⟩
    refine And.intro (zA_82 hS) (zrdR (v := some 88) (zR_82_10 hR) ?_)
    refine And.intro (zA_88 hS) (zrd (v := (bnp s)) hP2 ?_)
    refine And.intro ⟨(by omega), (by omega)⟩ ⟨fun h14 => ?_, fun h14 => ?_⟩
    · refine And.intro (by omega) ?_
      refine hQ _ ?_
      · rcases hu0 with e | e
        · exact Or.inr ⟨e, fun p hp' => hu2 e p (by omega)⟩
        · exact Or.inl ⟨e, hu1 e⟩
    · refine And.intro (by omega) ⟨fun h18 => ?_, fun h18 => ?_⟩
      · refine And.intro (by omega) ?_
        refine hQ _ ?_
        · rcases hu0 with e | e
          · exact Or.inr ⟨e, fun p hp' => hu2 e p (by omega)⟩
          · exact Or.inl ⟨e, hu1 e⟩
      · refine And.intro (zA_82 hS) (zrdR (v := some 88) (zR_82_10 hR) ?_)
        refine And.intro (zA_88 hS) ⟨_, sn_A_at.up (by decide), ?_⟩
        refine ⟨_, _, _, _, p, 0, (p : Int), (0 : Int), rfl, hS, hR, (zRw_88 hR hS), (by first | exact (zRT_fr hPT (fun c j h => rfl)) | (clear hQ; grind [xu])), (by omega), (by omega), ?_⟩
        intro v28o p28hv p28bhr
        refine And.intro ⟨(by omega), (by omega)⟩ ⟨fun h32 => ?_, fun h32 => ?_⟩
        · refine ⟨((41 - (p + 1)), 0, 0), zlt6 (by omega), [some (zvr (82)), some (zvi (t)), some (zvi (o)), some (zvi ((0 : Int))), some (zvi ((p + 1)))], ⟨rfl, rfl, rfl, rfl, rfl, rfl⟩, 0, (p + 1), rfl, rfl, rfl, rfl, rfl, rfl, rfl, (by omega), (by first | exact Or.inl rfl | exact Or.inr rfl), (fun h => by first | exact absurd h (by decide) | exact Exists.intro p ⟨by omega, by omega, by omega⟩), ?_⟩
          · intro h q hq
            first
            | exact absurd h (by decide)
            | (by_cases e : q = p
               · subst e
                 rintro ⟨a1, a2⟩
                 omega
               · exact hu2 (by omega) q (by omega))
        · refine And.intro (zA_82 hS) (zrdR (v := some 88) (zR_82_10 hR) ?_)
          refine And.intro (zA_88 hS) ⟨_, sn_A_at.up (by decide), ?_⟩
          refine ⟨_, _, _, _, p, 1, (p : Int), (1 : Int), rfl, hS, hR, (zRw_88 hR hS), (by first | exact (zRT_fr hPT (fun c j h => rfl)) | (clear hQ; grind [xu])), (by omega), (by omega), ?_⟩
          intro v42o p42hv p42bhr
          refine And.intro ⟨(by omega), (by omega)⟩ ⟨fun h46 => ?_, fun h46 => ?_⟩
          · refine ⟨((41 - (p + 1)), 0, 0), zlt6 (by omega), [some (zvr (82)), some (zvi (t)), some (zvi (o)), some (zvi ((0 : Int))), some (zvi ((p + 1)))], ⟨rfl, rfl, rfl, rfl, rfl, rfl⟩, 0, (p + 1), rfl, rfl, rfl, rfl, rfl, rfl, rfl, (by omega), (by first | exact Or.inl rfl | exact Or.inr rfl), (fun h => by first | exact absurd h (by decide) | exact Exists.intro p ⟨by omega, by omega, by omega⟩), ?_⟩
            · intro h q hq
              first
              | exact absurd h (by decide)
              | (by_cases e : q = p
                 · subst e
                   rintro ⟨a1, a2⟩
                   omega
                 · exact hu2 (by omega) q (by omega))
          · refine ⟨((41 - (p + 1)), 0, 0), zlt6 (by omega), [some (zvr (82)), some (zvi (t)), some (zvi (o)), some (zvi ((1 : Int))), some (zvi ((p + 1)))], ⟨rfl, rfl, rfl, rfl, rfl, rfl⟩, 1, (p + 1), rfl, rfl, rfl, rfl, rfl, rfl, rfl, (by omega), (by first | exact Or.inl rfl | exact Or.inr rfl), (fun h => by first | exact absurd h (by decide) | exact Exists.intro p ⟨by omega, by omega, by omega⟩), ?_⟩
            · intro h q hq
              first
              | exact absurd h (by decide)
              | (by_cases e : q = p
                 · subst e
                   rintro ⟨a1, a2⟩
                   omega
                 · exact hu2 (by omega) q (by omega)))
def T_A_route : ZT := fun args I L R S Q => ∃ (b : Nat) (s : BdS) (t : Int), args = [zvr 82, zvi t] ∧ (zSh S) ∧ (zRs R) ∧ (zBA b s I L) ∧ (r32 t) ∧ ∀ (v : Int), (v = zlow (fun n => bN s n 0 = t) (bnn s)) → Q (some (zvi (v))) I L R S
theorem sn_A_route : ZSnd 2 0 20 T_A_route := ZSnd.loops (zT0_20 1) (by
  rintro args I L R S Q hz ⟨b, s, t, rfl, hS, hR, hBA, hr, hQ⟩
  obtain ⟨⟨hb0, hbw, hbh, hbd, hbs⟩, hnb, hcl, hPT, hNT, hwy, hco, hnd⟩ := id hBA
  obtain ⟨hP1, hP2, hP3, hP4⟩ := id hPT
  obtain ⟨hN1, hN2, hN3, hN4⟩ := id hNT
  refine ⟨[2], fun nM tM lsM stM I1 L1 R1 S1 => match tM with
      | 2 => ∃ (k : Nat), nM = ((13 - k), 0, 0) ∧ lsM = [some (zvr (82)), some (zvi (t)), some (zvi (k))] ∧ stM = [] ∧ I1 = I ∧ L1 = L ∧ R1 = R ∧ S1 = S ∧ (k ≤ bnn s) ∧ (∀ q : Nat, q < k → ¬ bN s q 0 = t)
      | _ => False, rfl, ?_, ⟨?_, True.intro⟩⟩
  · refine ⟨((13 - (0 : Nat)), 0, 0), [some (zvr (82)), some (zvi (t)), some (zvi ((0 : Nat)))], ⟨rfl, rfl, rfl, rfl⟩, 0, rfl, rfl, rfl, rfl, rfl, rfl, rfl, (by omega), (fun q h => absurd h (Nat.not_lt_zero q))⟩
  · rintro nM lsM stM I1 L1 R1 S1 hz1 ⟨k, rfl, rfl, rfl, rfl, rfl, rfl, rfl, hk, hno⟩
    refine And.intro (zA_82 hS) (zrdR (v := some 90) (zR_82_11 hR) ?_)
    refine And.intro (zA_90 hS) (zrd (v := (bnn s)) hN2 ?_)
    refine And.intro ⟨(by omega), (by omega)⟩ ⟨fun h10 => ?_, fun h10 => ?_⟩
    · refine hQ _ ?_
      · first
        | exact (zlow_at (P := fun n => bN s n 0 = t) (show bN s k 0 = t by omega) hno (by omega)).symm
        | exact (zlow_no (P := fun n => bN s n 0 = t) (fun q hq => hno q (by omega))).symm
    · refine And.intro (zA_82 hS) (zrdR (v := some 90) (zR_82_11 hR) ?_)
      refine And.intro (zA_90 hS) ⟨_, sn_A_at.up (by decide), ?_⟩
      refine ⟨_, _, _, _, k, 0, (k : Int), (0 : Int), rfl, hS, hR, (zRw_90 hR hS), (by first | exact (zRT_fr hNT (fun c j h => rfl)) | (clear hQ; grind [xu])), (by omega), (by omega), ?_⟩
      intro v19o p19hv p19bhr
      refine And.intro ⟨(by omega), (by omega)⟩ ⟨fun h23 => ?_, fun h23 => ?_⟩
      · refine ⟨((13 - (k + 1)), 0, 0), zlt6 (by omega), [some (zvr (82)), some (zvi (t)), some (zvi ((k + 1)))], ⟨rfl, rfl, rfl, rfl⟩, (k + 1), rfl, rfl, rfl, rfl, rfl, rfl, rfl, (by omega), ?_⟩
        · intro q hq
          by_cases e : q = k
          · subst e
            omega
          · exact hno q (by omega)
      · refine hQ _ ?_
        · first
          | exact (zlow_at (P := fun n => bN s n 0 = t) (show bN s k 0 = t by omega) hno (by omega)).symm
          | exact (zlow_no (P := fun n => bN s n 0 = t) (fun q hq => hno q (by omega))).symm)
