/-! pu -/
def T_M_has : ZT := fun args I L R S Q => ∃ (s : BdS) (t : Int) (o : Int), args = [zvr 165, zvi t, zvi o] ∧ (zSh S) ∧ (zRs R) ∧ (zPB s I) ∧ (bGd s) ∧ (r32 t ∧ r32 o) ∧ ∀ (v : Int), ((v = 1 ∧ bHas s t o) ∨ (v = 0 ∧ ¬ bHas s t o)) → (0 ≤ v ∧ v ≤ 1) → Q (some (zvi (v))) I L R S
theorem sn_M_has : ZSnd 1 21 25 T_M_has := ZSnd.loops (zT21_25 0) (by
  rintro args I L R S Q hz ⟨s, t, o, rfl, hS, hR, hPB, hGd, hr, hQ⟩
  obtain ⟨b1, b2, b3, b4⟩ := id hPB
  have gd := hGd.2.1
  refine ⟨[5], fun nM tM lsM stM I1 L1 R1 S1 => match tM with
      | 5 => ∃ (m : Nat) (a : Int), nM = ((41 - m), 0, 0) ∧ lsM = [some (zvr (165)), some (zvi (t)), some (zvi (o)), some (zvi (a)), some (zvi (m))] ∧ stM = [] ∧ I1 = I ∧ L1 = L ∧ R1 = R ∧ S1 = S ∧ (m ≤ bnp s) ∧ ((a = 1 ∧ bHas s t o) ∨ (a = 0 ∧ ∀ p, p < m → ¬ (bP s p 0 = t ∧ bP s p 1 = o))) ∧ (0 ≤ a ∧ a ≤ 1)
      | _ => False, rfl, ?_, ⟨?_, True.intro⟩⟩
  · refine ⟨((41 - (0 : Nat)), 0, 0), [some (zvr (165)), some (zvi (t)), some (zvi (o)), some (zvi ((0 : Int))), some (zvi ((0 : Nat)))], ⟨rfl, rfl, rfl, rfl, rfl, rfl⟩, 0, 0, rfl, rfl, rfl, rfl, rfl, rfl, rfl, (by omega), (Or.inr ⟨rfl, fun p h => absurd h (Nat.not_lt_zero p)⟩), (by omega)⟩
  · rintro nM lsM stM I1 L1 R1 S1 hz1 ⟨m, a, rfl, rfl, rfl, rfl, rfl, rfl, rfl, hm, ha, ha2⟩
    refine And.intro (zA_165 hS) (zrd (v := (bnp s)) b1 ?_)
    refine And.intro ⟨(by omega), (by omega)⟩ ⟨fun h11 => ?_, fun h11 => ?_⟩
    · refine And.intro (by omega) ?_
      refine hQ _ ?_ (by omega)
      · rcases ha with q | q
        · exact Or.inl q
        · refine Or.inr ⟨q.1, fun w => ?_⟩
          obtain ⟨p, p1, p2⟩ := w
          exact q.2 p (by omega) p2
    · refine And.intro (by omega) ⟨fun h15 => ?_, fun h15 => ?_⟩
      · refine ⟨((41 - (m + 1)), 0, 0), zlt6 (by omega), [some (zvr (165)), some (zvi (t)), some (zvi (o)), some (zvi ((1 : Int))), some (zvi ((m + 1)))], ⟨rfl, rfl, rfl, rfl, rfl, rfl⟩, (m + 1), 1, rfl, rfl, rfl, rfl, rfl, rfl, rfl, (by omega), ?_, (by omega)⟩
        · rcases ha with q | q
          · first
            | exact Or.inl ⟨rfl, q.2⟩
            | (exfalso; omega)
          · first
            | exact Or.inl ⟨rfl, m, by omega, by omega, by omega⟩
            | (refine Or.inr ⟨rfl, fun p hp => ?_⟩
               by_cases e : p = m
               · rw [e]; omega
               · exact q.2 p (by omega))
            | (exfalso; omega)
      · refine And.intro (zA_165 hS) (zrdR (v := some 197) (zR_165_16 hR) ?_)
        refine And.intro (zP_197 hS (by omega) (by omega)) (fun v24 e24 r24 => ?_)
        have f24 : v24 = bP s m 0 := (e24.trans ((congrArg (I1 197) (by omega)).trans (b3 m (by omega)).1.1))
        refine And.intro ⟨r24, (by omega)⟩ ⟨fun h26 => ?_, fun h26 => ?_⟩
        · refine ⟨((41 - (m + 1)), 0, 0), zlt6 (by omega), [some (zvr (165)), some (zvi (t)), some (zvi (o)), some (zvi ((0 : Int))), some (zvi ((m + 1)))], ⟨rfl, rfl, rfl, rfl, rfl, rfl⟩, (m + 1), 0, rfl, rfl, rfl, rfl, rfl, rfl, rfl, (by omega), ?_, (by omega)⟩
          · rcases ha with q | q
            · first
              | exact Or.inl ⟨rfl, q.2⟩
              | (exfalso; omega)
            · first
              | exact Or.inl ⟨rfl, m, by omega, by omega, by omega⟩
              | (refine Or.inr ⟨rfl, fun p hp => ?_⟩
                 by_cases e : p = m
                 · rw [e]; omega
                 · exact q.2 p (by omega))
              | (exfalso; omega)
        · refine And.intro (zA_165 hS) (zrdR (v := some 198) (zR_165_17 hR) ?_)
          refine And.intro (zP_198 hS (by omega) (by omega)) (fun v35 e35 r35 => ?_)
          have f35 : v35 = bP s m 1 := (e35.trans ((congrArg (I1 198) (by omega)).trans (b3 m (by omega)).1.2.1))
          refine And.intro ⟨r35, (by omega)⟩ ⟨fun h37 => ?_, fun h37 => ?_⟩
          · refine ⟨((41 - (m + 1)), 0, 0), zlt6 (by omega), [some (zvr (165)), some (zvi (t)), some (zvi (o)), some (zvi ((0 : Int))), some (zvi ((m + 1)))], ⟨rfl, rfl, rfl, rfl, rfl, rfl⟩, (m + 1), 0, rfl, rfl, rfl, rfl, rfl, rfl, rfl, (by omega), ?_, (by omega)⟩
            · rcases ha with q | q
              · first
                | exact Or.inl ⟨rfl, q.2⟩
                | (exfalso; omega)
              · first
                | exact Or.inl ⟨rfl, m, by omega, by omega, by omega⟩
                | (refine Or.inr ⟨rfl, fun p hp => ?_⟩
                   by_cases e : p = m
                   · rw [e]; omega
                   · exact q.2 p (by omega))
                | (exfalso; omega)
          · refine ⟨((41 - (m + 1)), 0, 0), zlt6 (by omega), [some (zvr (165)), some (zvi (t)), some (zvi (o)), some (zvi ((1 : Int))), some (zvi ((m + 1)))], ⟨rfl, rfl, rfl, rfl, rfl, rfl⟩, (m + 1), 1, rfl, rfl, rfl, rfl, rfl, rfl, rfl, (by omega), ?_, (by omega)⟩
            · rcases ha with q | q
              · first
                | exact Or.inl ⟨rfl, q.2⟩
                | (exfalso; omega)
              · first
                | exact Or.inl ⟨rfl, m, by omega, by omega, by omega⟩
                | (refine Or.inr ⟨rfl, fun p hp => ?_⟩
                   by_cases e : p = m
                   · rw [e]; omega
                   · exact q.2 p (by omega))
                | (exfalso; omega))
def T_M_rto : ZT := fun args I L R S Q => ∃ (s : BdS) (n : Int), args = [zvr 165, zvi n] ∧ (zSh S) ∧ (zRs R) ∧ (zPB s I) ∧ (bGd s) ∧ (r32 n) ∧ ∀ (v : Int), (v = bRt s n) → (-1 ≤ v ∧ v + 1 ≤ bnn s) → Q (some (zvi (v))) I L R S
theorem sn_M_rto : ZSnd 1 21 56 T_M_rto := ZSnd.loops (zT21_56 0) (by
  rintro args I L R S Q hz ⟨s, n, rfl, hS, hR, hPB, hGd, hr, hQ⟩
  obtain ⟨b1, b2, b3, b4⟩ := id hPB
  have gd := hGd.2.1
  have uq := hGd.2.2.2.2.2.2.2
  refine ⟨[4], fun nM tM lsM stM I1 L1 R1 S1 => match tM with
      | 4 => ∃ (m : Nat) (a : Int), nM = ((13 - m), 0, 0) ∧ lsM = [some (zvr (165)), some (zvi (n)), some (zvi (a)), some (zvi (m))] ∧ stM = [] ∧ I1 = I ∧ L1 = L ∧ R1 = R ∧ S1 = S ∧ (m ≤ bnn s) ∧ ((a = -1 ∧ ∀ p, p < m → bN s p 0 ≠ n) ∨ (0 ≤ a ∧ a < m ∧ bN s a.toNat 0 = n)) ∧ (-1 ≤ a ∧ a ≤ 11)
      | _ => False, rfl, ?_, ⟨?_, True.intro⟩⟩
  · refine ⟨((13 - (0 : Nat)), 0, 0), [some (zvr (165)), some (zvi (n)), some (zvi (((-1) : Int))), some (zvi ((0 : Nat)))], ⟨rfl, rfl, (congrArg (fun z => some (zvi z)) (by omega)), rfl, rfl⟩, 0, (-1), rfl, rfl, rfl, rfl, rfl, rfl, rfl, (by omega), (Or.inl ⟨rfl, fun p h => absurd h (Nat.not_lt_zero p)⟩), (by omega)⟩
  · rintro nM lsM stM I1 L1 R1 S1 hz1 ⟨m, a, rfl, rfl, rfl, rfl, rfl, rfl, rfl, hm, ha, ha2⟩
    refine And.intro (zA_165 hS) (zrd (v := (bnn s)) b2 ?_)
    refine And.intro ⟨(by omega), (by omega)⟩ ⟨fun h9 => ?_, fun h9 => ?_⟩
    · refine hQ _ ?_ (by omega)
      · rcases ha with q | q
        · rcases bRt_s s n with w | w
          · omega
          · exact absurd w.2.2 (q.2 _ (by omega))
        · rcases bRt_s s n with w | w
          · exact absurd q.2.2 (w.2 _ (by omega))
          · rcases Int.lt_trichotomy a (bRt s n) with z | z | z
            · exact absurd (q.2.2.trans w.2.2.symm) (uq a.toNat (bRt s n).toNat (by omega) (by omega))
            · exact z
            · exact absurd (w.2.2.trans q.2.2.symm) (uq (bRt s n).toNat a.toNat (by omega) (by omega))
    · refine And.intro (zA_165 hS) (zrdR (v := some 203) (zR_165_23 hR) ?_)
      refine And.intro (zP_203 hS (by omega) (by omega)) (fun v17 e17 r17 => ?_)
      have f17 : v17 = bN s m 0 := (e17.trans ((congrArg (I1 203) (by omega)).trans (b4 m (by omega))))
      refine And.intro ⟨r17, (by omega)⟩ ⟨fun h19 => ?_, fun h19 => ?_⟩
      · refine ⟨((13 - (m + 1)), 0, 0), zlt6 (by omega), [some (zvr (165)), some (zvi (n)), some (zvi (a)), some (zvi ((m + 1)))], ⟨rfl, rfl, rfl, rfl, rfl⟩, (m + 1), a, rfl, rfl, rfl, rfl, rfl, rfl, rfl, (by omega), ?_, (by omega)⟩
        · first
          | exact Or.inr ⟨by omega, by omega, by show bN s m 0 = n; omega⟩
          | (rcases ha with q | q
             · refine Or.inl ⟨q.1, fun p hp => ?_⟩
               by_cases e : p = m
               · rw [e]; omega
               · exact q.2 p (by omega)
             · exact Or.inr ⟨q.1, by omega, q.2.2⟩)
      · refine ⟨((13 - (m + 1)), 0, 0), zlt6 (by omega), [some (zvr (165)), some (zvi (n)), some (zvi (m)), some (zvi ((m + 1)))], ⟨rfl, rfl, rfl, rfl, rfl⟩, (m + 1), m, rfl, rfl, rfl, rfl, rfl, rfl, rfl, (by omega), ?_, (by omega)⟩
        · first
          | exact Or.inr ⟨by omega, by omega, by show bN s m 0 = n; omega⟩
          | (rcases ha with q | q
             · refine Or.inl ⟨q.1, fun p hp => ?_⟩
               by_cases e : p = m
               · rw [e]; omega
               · exact q.2 p (by omega)
             · exact Or.inr ⟨q.1, by omega, q.2.2⟩))
