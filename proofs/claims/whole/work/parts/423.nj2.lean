/-! nj2 -/
def T_J_wires : ZT := fun args I L R S Q => ∃ (k : Nat) (d : JdS) (E : Nat → Nat → Prop) (tt : Int) (t : Nat) (bb : Int), args = [zvr k, zvi tt, zvi bb] ∧ (zDy zT18 zF18 k R S) ∧ (zNJ k d I L) ∧ (jGd d) ∧ (zJF (k + 18) E I) ∧ (tt = t ∧ t < dns d) ∧ (bb = dbs d t) ∧ ∀ (I' : ZI), (zSw (k + 18) d t E (dnw d) 0 I') → (∀ c j : Nat, ¬ c = k + 18 → I' c j = I c j) → Q none I' L R S
theorem sn_J_wires : ZSnd 3 18 17 T_J_wires := ZSnd.loops (zT18_17 2) (by
  rintro args I L R S Q hz ⟨k, d, E, tt, t, bb, rfl, hd, hNJ, hJG, hJF, ht, hbs, hQ⟩
  have h5 := hd.1
  obtain ⟨⟨n1, n2, n3, n4, n5, n6, n7⟩, nS, nW, nD, nJ, nL, nT, nO, nP, nR⟩ := id hNJ
  obtain ⟨⟨g1, g2, g3, g4, g5, g6⟩, gs, gw, gj, gl, gp, gt⟩ := id hJG
  have hdt := gs t ht.2
  refine ⟨[2, 13, 70], fun nM tM lsM stM I1 L1 R1 S1 => match tM with
      | 2 => ∃ (i : Nat), nM = ((101 - i), 200, 0) ∧ lsM = [some (zvr (k)), some (zvi (t)), some (zvi (bb)), some (zvi (i)), none, none, none, none] ∧ stM = [] ∧ L1 = L ∧ R1 = R ∧ S1 = S ∧ (i ≤ dnw d) ∧ (zSw (k + 18) d t E i 0 I1) ∧ (∀ c j : Nat, ¬ c = k + 18 → I1 c j = I c j)
      | 13 => ∃ (i : Nat) (j : Nat), nM = ((101 - i), (101 - j), 60) ∧ lsM = [some (zvr (k)), some (zvi (t)), some (zvi (bb)), some (zvi (i)), some (zvi (j)), none, none, none] ∧ stM = [] ∧ L1 = L ∧ R1 = R ∧ S1 = S ∧ (i < dnw d ∧ j ≤ i) ∧ (zSw (k + 18) d t E i j I1) ∧ (∀ c j : Nat, ¬ c = k + 18 → I1 c j = I c j)
      | 70 => ∃ (i : Nat) (j : Nat) (m : Nat) (bo : Int) (jo : Int), nM = ((101 - i), (101 - j), (51 - m)) ∧ lsM = [some (zvr (k)), some (zvi (t)), some (zvi (bb)), some (zvi (i)), some (zvi (j)), some (zvi (bo)), some (zvi (jo)), some (zvi (m))] ∧ stM = [] ∧ L1 = L ∧ R1 = R ∧ S1 = S ∧ (i < dnw d ∧ j < i ∧ m ≤ dnj d) ∧ ((bo = 1 ∧ dW d i 0 = dbs d t ∧ dW d j 0 = dbs d t) ∨ (bo = 0 ∧ ¬ (dW d i 0 = dbs d t ∧ dW d j 0 = dbs d t))) ∧ ((jo = 1 ∧ bo = 1 ∧ jWk d t i j (dnj d)) ∨ (jo = 0 ∧ (bo = 0 ∨ ¬ jWk d t i j m))) ∧ (zSw (k + 18) d t E i j I1) ∧ (∀ c j : Nat, ¬ c = k + 18 → I1 c j = I c j)
      | _ => False, rfl, ?_, ⟨?_, ?_, ?_, True.intro⟩⟩
  · refine ⟨((101 - (0 : Nat)), 200, 0), [some (zvr (k)), some (zvi (t)), some (zvi (bb)), some (zvi ((0 : Nat))), none, none, none, none], ⟨rfl, (congrArg (fun z => some (zvi z)) (by omega)), rfl, rfl, rfl⟩, 0, rfl, rfl, rfl, rfl, rfl, rfl, (by omega), ⟨E, hJF, jGr_r, jDw_0⟩, (fun c j h0 => rfl)⟩
  · rintro nM lsM stM I1 L1 R1 S1 hz1 ⟨i, rfl, rfl, rfl, rfl, rfl, rfl, hi, hS, fr⟩
    refine And.intro (zDX hd 0 rfl) (zrd (v := (dnw d)) ((fr k 4 (by omega)).trans n2) ?_)
    refine And.intro ⟨(by omega), (by omega)⟩ ⟨fun h7 => ?_, fun h7 => ?_⟩
    · refine hQ _ (by obtain rfl : i = dnw d := (by omega); exact hS) (fun c j h0 => ((fr c j (by omega)).trans rfl))
    · refine ⟨((101 - i), (101 - (0 : Nat)), 60), zlt6 (by omega), [some (zvr (k)), some (zvi (t)), some (zvi (bb)), some (zvi (i)), some (zvi ((0 : Nat))), none, none, none], ⟨rfl, rfl, rfl, rfl, rfl, rfl⟩, i, 0, rfl, rfl, rfl, rfl, rfl, rfl, (by omega), hS, (fun c j h0 => ((fr c j (by omega)).trans rfl))⟩
  · rintro nM lsM stM I1 L1 R1 S1 hz1 ⟨i, j, rfl, rfl, rfl, rfl, rfl, rfl, hi, hS, fr⟩
    refine And.intro ⟨(by omega), (by omega)⟩ ⟨fun h16 => ?_, fun h16 => ?_⟩
    · refine ⟨((101 - (i + 1)), 200, 0), zlt6 (by omega), [some (zvr (k)), some (zvi (t)), some (zvi (bb)), some (zvi ((i + 1))), none, none, none, none], ⟨rfl, rfl, rfl, rfl, rfl⟩, (i + 1), rfl, rfl, rfl, rfl, rfl, rfl, (by omega), (by obtain ⟨F, q1, q2, q3⟩ := hS; exact ⟨F, q1, q2, jDw_i q3 (by omega)⟩), (fun c j h0 => ((fr c j (by omega)).trans rfl))⟩
    · refine And.intro (zDX hd 0 rfl) (Exists.intro _ (And.intro (zinl_ok (zT18_9 1)) (And.intro rfl ?_)))
      refine And.intro (zDX hd 0 rfl) (zrdR (v := some (k + 3)) (zDR hd 2 rfl) ?_)
      refine And.intro (zDP hd 3 rfl rfl (by omega) (by omega)) (fun v5_22 e5_22 r5_22 => ?_)
      have f5_22 : v5_22 = dW d i 0 := (e5_22.trans ((congrArg (I1 (k + 3)) (by omega)).trans ((fr (k + 3) i (by omega)).trans (nW i (by omega)).1)))
      refine And.intro ⟨r5_22, (by omega)⟩ ⟨fun h7_22 => ?_, fun h7_22 => ?_⟩
      · refine And.intro (Or.inl rfl) ?_
        refine And.intro (zRb rfl) (zbt rfl ?_)
        refine And.intro (zRb rfl) (zbt rfl ?_)
        refine ⟨((101 - i), (101 - j), (51 - (0 : Nat))), zlt6 (by omega), [some (zvr (k)), some (zvi (t)), some (zvi (bb)), some (zvi (i)), some (zvi (j)), some (zvi ((0 : Int))), some (zvi ((0 : Int))), some (zvi ((0 : Nat)))], ⟨rfl, rfl, rfl, rfl, rfl, rfl, rfl, rfl, rfl⟩, i, j, 0, 0, 0, rfl, rfl, rfl, rfl, rfl, rfl, (by omega), (by clear hQ; grind [xu]), ?_, hS, (fun c j h0 => ((fr c j (by omega)).trans rfl))⟩
        · first
          | exact Or.inr ⟨rfl, Or.inl rfl⟩
          | exact Or.inl ⟨rfl, rfl, Or.inl (p54hz.resolve_right (fun w => by have := w.1; omega)).2⟩
          | exact Or.inr ⟨rfl, Or.inr (jWk_0 (p54hz.resolve_left (fun w => by have := w.1; omega)).2)⟩
      · refine And.intro (zDX hd 0 rfl) (zrdR (v := some (k + 5)) (zDR hd 4 rfl) ?_)
        refine And.intro (Or.inr (zDP hd 5 rfl rfl (by omega) (by omega))) (fun v15_22 e15_22 r15_22 => ?_)
        have f15_22 : v15_22 = 0 := (e15_22.trans ((congrArg (I1 (k + 5)) (by omega)).trans ((fr (k + 5) i (by omega)).trans (nD i (by omega)))))
        refine And.intro r15_22 ⟨(fun h16_22 => False.elim (by omega)), fun h16_22 => ?_⟩
        refine And.intro (Or.inr rfl) ?_
        refine And.intro (zRb rfl) (zbf rfl ?_)
        refine And.intro (zDX hd 0 rfl) (Exists.intro _ (And.intro (zinl_ok (zT18_9 1)) (And.intro rfl ?_)))
        refine And.intro (zDX hd 0 rfl) (zrdR (v := some (k + 3)) (zDR hd 2 rfl) ?_)
        refine And.intro (zDP hd 3 rfl rfl (by omega) (by omega)) (fun v5_32 e5_32 r5_32 => ?_)
        have f5_32 : v5_32 = dW d j 0 := (e5_32.trans ((congrArg (I1 (k + 3)) (by omega)).trans ((fr (k + 3) j (by omega)).trans (nW j (by omega)).1)))
        refine And.intro ⟨r5_32, (by omega)⟩ ⟨fun h7_32 => ?_, fun h7_32 => ?_⟩
        · refine And.intro (Or.inl rfl) ?_
          refine And.intro (zRb rfl) (zbt rfl ?_)
          refine And.intro (zRb rfl) (zbt rfl ?_)
          refine ⟨((101 - i), (101 - j), (51 - (0 : Nat))), zlt6 (by omega), [some (zvr (k)), some (zvi (t)), some (zvi (bb)), some (zvi (i)), some (zvi (j)), some (zvi ((0 : Int))), some (zvi ((0 : Int))), some (zvi ((0 : Nat)))], ⟨rfl, rfl, rfl, rfl, rfl, rfl, rfl, rfl, rfl⟩, i, j, 0, 0, 0, rfl, rfl, rfl, rfl, rfl, rfl, (by omega), (by clear hQ; grind [xu]), ?_, hS, (fun c j h0 => ((fr c j (by omega)).trans rfl))⟩
          · first
            | exact Or.inr ⟨rfl, Or.inl rfl⟩
            | exact Or.inl ⟨rfl, rfl, Or.inl (p54hz.resolve_right (fun w => by have := w.1; omega)).2⟩
            | exact Or.inr ⟨rfl, Or.inr (jWk_0 (p54hz.resolve_left (fun w => by have := w.1; omega)).2)⟩
        · refine And.intro (zDX hd 0 rfl) (zrdR (v := some (k + 5)) (zDR hd 4 rfl) ?_)
          refine And.intro (Or.inr (zDP hd 5 rfl rfl (by omega) (by omega))) (fun v15_32 e15_32 r15_32 => ?_)
          have f15_32 : v15_32 = 0 := (e15_32.trans ((congrArg (I1 (k + 5)) (by omega)).trans ((fr (k + 5) j (by omega)).trans (nD j (by omega)))))
          refine And.intro r15_32 ⟨(fun h16_32 => False.elim (by omega)), fun h16_32 => ?_⟩
          refine And.intro (Or.inr rfl) ?_
          refine And.intro (zRb rfl) (zbf rfl ?_)
          refine And.intro (zRb rfl) (zbf rfl ?_)
          refine And.intro (zDX hd 0 rfl) ⟨_, sn_J_end.up (by decide), ?_⟩
          refine ⟨k, d, (i : Int), i, (j : Int), j, rfl, hd, (zNJ_fr hNJ (fun c j h => fr c j (by omega)) (fun c j h => rfl)), (by first | exact hJG | (clear hQ; grind [xu])), (by omega), (by omega), (by omega), (by omega), ?_⟩
          intro z54o p54hz
          refine And.intro (by omega) ⟨fun h57 => ?_, fun h57 => ?_⟩
          · refine ⟨((101 - i), (101 - j), (51 - (0 : Nat))), zlt6 (by omega), [some (zvr (k)), some (zvi (t)), some (zvi (bb)), some (zvi (i)), some (zvi (j)), some (zvi ((1 : Int))), some (zvi ((0 : Int))), some (zvi ((0 : Nat)))], ⟨rfl, rfl, rfl, rfl, rfl, rfl, rfl, rfl, rfl⟩, i, j, 0, 1, 0, rfl, rfl, rfl, rfl, rfl, rfl, (by omega), (by clear hQ; grind [xu]), ?_, hS, (fun c j h0 => ((fr c j (by omega)).trans rfl))⟩
            · first
              | exact Or.inr ⟨rfl, Or.inl rfl⟩
              | exact Or.inl ⟨rfl, rfl, Or.inl (p54hz.resolve_right (fun w => by have := w.1; omega)).2⟩
              | exact Or.inr ⟨rfl, Or.inr (jWk_0 (p54hz.resolve_left (fun w => by have := w.1; omega)).2)⟩
          · refine ⟨((101 - i), (101 - j), (51 - (0 : Nat))), zlt6 (by omega), [some (zvr (k)), some (zvi (t)), some (zvi (bb)), some (zvi (i)), some (zvi (j)), some (zvi ((1 : Int))), some (zvi ((1 : Int))), some (zvi ((0 : Nat)))], ⟨rfl, rfl, rfl, rfl, rfl, rfl, rfl, rfl, rfl⟩, i, j, 0, 1, 1, rfl, rfl, rfl, rfl, rfl, rfl, (by omega), (by clear hQ; grind [xu]), ?_, hS, (fun c j h0 => ((fr c j (by omega)).trans rfl))⟩
            · first
              | exact Or.inr ⟨rfl, Or.inl rfl⟩
              | exact Or.inl ⟨rfl, rfl, Or.inl (p54hz.resolve_right (fun w => by have := w.1; omega)).2⟩
              | exact Or.inr ⟨rfl, Or.inr (jWk_0 (p54hz.resolve_left (fun w => by have := w.1; omega)).2)⟩
  · rintro nM lsM stM I1 L1 R1 S1 hz1 ⟨i, j, m, bo, jo, rfl, rfl, rfl, rfl, rfl, rfl, hi, hbo, hjo, hS, fr⟩
    obtain ⟨F, hJ1, hgr, hdw⟩ := id hS
    have hbj : 0 ≤ bo ∧ bo ≤ 1 ∧ 0 ≤ jo ∧ jo ≤ 1 := by rcases hbo with w | w <;> rcases hjo with w2 | w2 <;> omega
    refine And.intro (zDX hd 0 rfl) (zrd (v := (dnj d)) ((fr k 8 (by omega)).trans n3) ?_)
    refine And.intro ⟨(by omega), (by omega)⟩ ⟨fun h76 => ?_, fun h76 => ?_⟩
    · refine And.intro (by omega) ⟨fun h172 => ?_, fun h172 => ?_⟩
      · refine ⟨((101 - i), (101 - (j + 1)), 60), zlt6 (by omega), [some (zvr (k)), some (zvi (t)), some (zvi (bb)), some (zvi (i)), some (zvi ((j + 1))), none, none, none], ⟨rfl, rfl, rfl, rfl, rfl, rfl⟩, i, (j + 1), rfl, rfl, rfl, rfl, rfl, rfl, (by omega), ?_, (fun c j h0 => ((fr c j (by omega)).trans rfl))⟩
        · first
          | exact ⟨_, p189hJF2, jGr_a hgr (Or.inl ⟨i, j, by omega, by omega, by rcases hjo with w | w; exact ⟨by omega, by omega, w.2.2⟩; exfalso; omega, rfl, rfl⟩), jDw_a hdw⟩
          | exact ⟨F, hJ1, hgr, jDw_j hdw (fun q => by
               rcases hjo with w | ⟨w1, w2⟩
               · exfalso; omega
               · rcases hbo with b1 | b1
                 · rcases w2 with w2 | w2
                   · exfalso; omega
                   · have e : m = dnj d := (by omega)
                     exact w2 (by rw [e]; exact q.2.2)
                 · exact b1.2 ⟨q.1, q.2.1⟩)⟩
      · refine And.intro (zDX hd 0 rfl) ⟨_, sn_J_join.up (by decide), ?_⟩
        refine ⟨k, F, (((16 * i) + t) : Int), (16 * i + t), (((16 * j) + t) : Int), (16 * j + t), rfl, hd, hJ1, (by omega), (by omega), ?_⟩
        intro I189o p189hJF2 p189bfr
        refine ⟨((101 - i), (101 - (j + 1)), 60), zlt6 (by omega), [some (zvr (k)), some (zvi (t)), some (zvi (bb)), some (zvi (i)), some (zvi ((j + 1))), none, none, none], ⟨rfl, rfl, rfl, rfl, rfl, rfl⟩, i, (j + 1), rfl, rfl, rfl, rfl, rfl, rfl, (by omega), ?_, (fun c j h0 => ((p189bfr c j (by omega)).trans ((fr c j (by omega)).trans rfl)))⟩
        · first
          | exact ⟨_, p189hJF2, jGr_a hgr (Or.inl ⟨i, j, by omega, by omega, by rcases hjo with w | w; exact ⟨by omega, by omega, w.2.2⟩; exfalso; omega, rfl, rfl⟩), jDw_a hdw⟩
          | exact ⟨F, hJ1, hgr, jDw_j hdw (fun q => by
               rcases hjo with w | ⟨w1, w2⟩
               · exfalso; omega
               · rcases hbo with b1 | b1
                 · rcases w2 with w2 | w2
                   · exfalso; omega
                   · have e : m = dnj d := (by omega)
                     exact w2 (by rw [e]; exact q.2.2)
                 · exact b1.2 ⟨q.1, q.2.1⟩)⟩
    · refine And.intro (by omega) ⟨fun h81 => ?_, fun h81 => ?_⟩
      · refine And.intro (by omega) ⟨fun h172 => ?_, fun h172 => ?_⟩
        · refine ⟨((101 - i), (101 - (j + 1)), 60), zlt6 (by omega), [some (zvr (k)), some (zvi (t)), some (zvi (bb)), some (zvi (i)), some (zvi ((j + 1))), none, none, none], ⟨rfl, rfl, rfl, rfl, rfl, rfl⟩, i, (j + 1), rfl, rfl, rfl, rfl, rfl, rfl, (by omega), ?_, (fun c j h0 => ((fr c j (by omega)).trans rfl))⟩
          · first
            | exact ⟨_, p189hJF2, jGr_a hgr (Or.inl ⟨i, j, by omega, by omega, by rcases hjo with w | w; exact ⟨by omega, by omega, w.2.2⟩; exfalso; omega, rfl, rfl⟩), jDw_a hdw⟩
            | exact ⟨F, hJ1, hgr, jDw_j hdw (fun q => by
                 rcases hjo with w | ⟨w1, w2⟩
                 · exfalso; omega
                 · rcases hbo with b1 | b1
                   · rcases w2 with w2 | w2
                     · exfalso; omega
                     · have e : m = dnj d := (by omega)
                       exact w2 (by rw [e]; exact q.2.2)
                   · exact b1.2 ⟨q.1, q.2.1⟩)⟩
        · refine And.intro (zDX hd 0 rfl) ⟨_, sn_J_join.up (by decide), ?_⟩
          refine ⟨k, F, (((16 * i) + t) : Int), (16 * i + t), (((16 * j) + t) : Int), (16 * j + t), rfl, hd, hJ1, (by omega), (by omega), ?_⟩
          intro I189o p189hJF2 p189bfr
          refine ⟨((101 - i), (101 - (j + 1)), 60), zlt6 (by omega), [some (zvr (k)), some (zvi (t)), some (zvi (bb)), some (zvi (i)), some (zvi ((j + 1))), none, none, none], ⟨rfl, rfl, rfl, rfl, rfl, rfl⟩, i, (j + 1), rfl, rfl, rfl, rfl, rfl, rfl, (by omega), ?_, (fun c j h0 => ((p189bfr c j (by omega)).trans ((fr c j (by omega)).trans rfl)))⟩
          · first
            | exact ⟨_, p189hJF2, jGr_a hgr (Or.inl ⟨i, j, by omega, by omega, by rcases hjo with w | w; exact ⟨by omega, by omega, w.2.2⟩; exfalso; omega, rfl, rfl⟩), jDw_a hdw⟩
            | exact ⟨F, hJ1, hgr, jDw_j hdw (fun q => by
                 rcases hjo with w | ⟨w1, w2⟩
                 · exfalso; omega
                 · rcases hbo with b1 | b1
                   · rcases w2 with w2 | w2
                     · exfalso; omega
                     · have e : m = dnj d := (by omega)
                       exact w2 (by rw [e]; exact q.2.2)
                   · exact b1.2 ⟨q.1, q.2.1⟩)⟩
      · refine And.intro (by omega) ⟨fun h86 => ?_, fun h86 => ?_⟩
        · refine And.intro (by omega) ⟨(fun h172 => False.elim (by omega)), fun h172 => ?_⟩
          refine And.intro (zDX hd 0 rfl) ⟨_, sn_J_join.up (by decide), ?_⟩
          refine ⟨k, F, (((16 * i) + t) : Int), (16 * i + t), (((16 * j) + t) : Int), (16 * j + t), rfl, hd, hJ1, (by omega), (by omega), ?_⟩
          intro I189o p189hJF2 p189bfr
          refine ⟨((101 - i), (101 - (j + 1)), 60), zlt6 (by omega), [some (zvr (k)), some (zvi (t)), some (zvi (bb)), some (zvi (i)), some (zvi ((j + 1))), none, none, none], ⟨rfl, rfl, rfl, rfl, rfl, rfl⟩, i, (j + 1), rfl, rfl, rfl, rfl, rfl, rfl, (by omega), ?_, (fun c j h0 => ((p189bfr c j (by omega)).trans ((fr c j (by omega)).trans rfl)))⟩
          · first
            | exact ⟨_, p189hJF2, jGr_a hgr (Or.inl ⟨i, j, by omega, by omega, by rcases hjo with w | w; exact ⟨by omega, by omega, w.2.2⟩; exfalso; omega, rfl, rfl⟩), jDw_a hdw⟩
            | exact ⟨F, hJ1, hgr, jDw_j hdw (fun q => by
                 rcases hjo with w | ⟨w1, w2⟩
                 · exfalso; omega
                 · rcases hbo with b1 | b1
                   · rcases w2 with w2 | w2
                     · exfalso; omega
                     · have e : m = dnj d := (by omega)
                       exact w2 (by rw [e]; exact q.2.2)
                   · exact b1.2 ⟨q.1, q.2.1⟩)⟩
        · refine And.intro (zDX hd 0 rfl) (zrdR (v := some (k + 6)) (zDR hd 5 rfl) ?_)
          refine And.intro (zDP hd 6 rfl rfl (by omega) (by omega)) (fun v95 e95 r95 => ?_)
          have f95 : v95 = dJ d m 0 := (e95.trans ((congrArg (I1 (k + 6)) (by omega)).trans ((fr (k + 6) m (by omega)).trans (nJ m (by omega)).1)))
          refine And.intro ⟨r95, (by omega)⟩ ⟨fun h97 => ?_, fun h97 => ?_⟩
          · refine ⟨((101 - i), (101 - j), (51 - (m + 1))), zlt6 (by omega), [some (zvr (k)), some (zvi (t)), some (zvi (bb)), some (zvi (i)), some (zvi (j)), some (zvi (bo)), some (zvi ((0 : Int))), some (zvi ((m + 1)))], ⟨rfl, rfl, rfl, rfl, rfl, rfl, rfl, rfl, rfl⟩, i, j, (m + 1), bo, 0, rfl, rfl, rfl, rfl, rfl, rfl, (by omega), hbo, ?_, hS, (fun c j h0 => ((fr c j (by omega)).trans rfl))⟩
            · have hn : ¬ jWk d t i j m := by
                rcases hjo with w | ⟨w1, w2 | w2⟩
                · exfalso; omega
                · exfalso; omega
                · exact w2
              first
              | exact Or.inl ⟨rfl, by omega, Or.inr ⟨m, by omega, by omega, (by rw [← f110, ← f121]; exact (p122hv.resolve_right (fun w => by have := w.1; omega)).2), (by rw [← f139, ← f150]; exact (p151hv.resolve_right (fun w => by have := w.1; omega)).2)⟩⟩
              | exact Or.inr ⟨rfl, Or.inr (jWk_n hn (fun q => by have := q.1; omega))⟩
              | exact Or.inr ⟨rfl, Or.inr (jWk_n hn (fun q => (p122hv.resolve_left (fun w => by have := w.1; omega)).2 (by rw [f110, f121]; exact q.2.1)))⟩
              | exact Or.inr ⟨rfl, Or.inr (jWk_n hn (fun q => (p151hv.resolve_left (fun w => by have := w.1; omega)).2 (by rw [f139, f150]; exact q.2.2)))⟩
          · refine And.intro (zDX hd 0 rfl) (zrdR (v := some (k + 7)) (zDR hd 6 rfl) ?_)
            refine And.intro (zDP hd 7 rfl rfl (by omega) (by omega)) (fun v110 e110 r110 => ?_)
            have f110 : v110 = dJ d m 1 := (e110.trans ((congrArg (L1 (k + 7)) (by omega)).trans (nJ m (by omega)).2.1))
            refine And.intro (zDX hd 0 rfl) (zrdR (v := some (k + 7)) (zDR hd 6 rfl) ?_)
            refine And.intro (zDP hd 7 rfl rfl (by omega) (by omega)) (fun v121 e121 r121 => ?_)
            have f121 : v121 = dJ d m 2 := (e121.trans ((congrArg (L1 (k + 7)) (by omega)).trans (nJ m (by omega)).2.2))
            refine And.intro (zDX hd 0 rfl) ⟨_, sn_J_thr.up (by decide), ?_⟩
            refine ⟨k, d, (i : Int), i, (v110 : Int), (v121 : Int), rfl, hd, (zNJ_fr hNJ (fun c j h => fr c j (by omega)) (fun c j h => rfl)), (by first | exact hJG | (clear hQ; grind [xu])), (by omega), (by omega), (by rw [f110, f121]; exact (gj m (by omega)).2), ?_⟩
            intro v122o p122hv
            refine And.intro (by omega) ⟨fun h125 => ?_, fun h125 => ?_⟩
            · refine ⟨((101 - i), (101 - j), (51 - (m + 1))), zlt6 (by omega), [some (zvr (k)), some (zvi (t)), some (zvi (bb)), some (zvi (i)), some (zvi (j)), some (zvi (bo)), some (zvi ((0 : Int))), some (zvi ((m + 1)))], ⟨rfl, rfl, rfl, rfl, rfl, rfl, rfl, rfl, rfl⟩, i, j, (m + 1), bo, 0, rfl, rfl, rfl, rfl, rfl, rfl, (by omega), hbo, ?_, hS, (fun c j h0 => ((fr c j (by omega)).trans rfl))⟩
              · have hn : ¬ jWk d t i j m := by
                  rcases hjo with w | ⟨w1, w2 | w2⟩
                  · exfalso; omega
                  · exfalso; omega
                  · exact w2
                first
                | exact Or.inl ⟨rfl, by omega, Or.inr ⟨m, by omega, by omega, (by rw [← f110, ← f121]; exact (p122hv.resolve_right (fun w => by have := w.1; omega)).2), (by rw [← f139, ← f150]; exact (p151hv.resolve_right (fun w => by have := w.1; omega)).2)⟩⟩
                | exact Or.inr ⟨rfl, Or.inr (jWk_n hn (fun q => by have := q.1; omega))⟩
                | exact Or.inr ⟨rfl, Or.inr (jWk_n hn (fun q => (p122hv.resolve_left (fun w => by have := w.1; omega)).2 (by rw [f110, f121]; exact q.2.1)))⟩
                | exact Or.inr ⟨rfl, Or.inr (jWk_n hn (fun q => (p151hv.resolve_left (fun w => by have := w.1; omega)).2 (by rw [f139, f150]; exact q.2.2)))⟩
            · refine And.intro (zDX hd 0 rfl) (zrdR (v := some (k + 7)) (zDR hd 6 rfl) ?_)
              refine And.intro (zDP hd 7 rfl rfl (by omega) (by omega)) (fun v139 e139 r139 => ?_)
              have f139 : v139 = dJ d m 1 := (e139.trans ((congrArg (L1 (k + 7)) (by omega)).trans (nJ m (by omega)).2.1))
              refine And.intro (zDX hd 0 rfl) (zrdR (v := some (k + 7)) (zDR hd 6 rfl) ?_)
              refine And.intro (zDP hd 7 rfl rfl (by omega) (by omega)) (fun v150 e150 r150 => ?_)
              have f150 : v150 = dJ d m 2 := (e150.trans ((congrArg (L1 (k + 7)) (by omega)).trans (nJ m (by omega)).2.2))
              refine And.intro (zDX hd 0 rfl) ⟨_, sn_J_thr.up (by decide), ?_⟩
              refine ⟨k, d, (j : Int), j, (v139 : Int), (v150 : Int), rfl, hd, (zNJ_fr hNJ (fun c j h => fr c j (by omega)) (fun c j h => rfl)), (by first | exact hJG | (clear hQ; grind [xu])), (by omega), (by omega), (by rw [f139, f150]; exact (gj m (by omega)).2), ?_⟩
              intro v151o p151hv
              refine And.intro (by omega) ⟨fun h154 => ?_, fun h154 => ?_⟩
              · refine ⟨((101 - i), (101 - j), (51 - (m + 1))), zlt6 (by omega), [some (zvr (k)), some (zvi (t)), some (zvi (bb)), some (zvi (i)), some (zvi (j)), some (zvi (bo)), some (zvi ((0 : Int))), some (zvi ((m + 1)))], ⟨rfl, rfl, rfl, rfl, rfl, rfl, rfl, rfl, rfl⟩, i, j, (m + 1), bo, 0, rfl, rfl, rfl, rfl, rfl, rfl, (by omega), hbo, ?_, hS, (fun c j h0 => ((fr c j (by omega)).trans rfl))⟩
                · have hn : ¬ jWk d t i j m := by
                    rcases hjo with w | ⟨w1, w2 | w2⟩
                    · exfalso; omega
                    · exfalso; omega
                    · exact w2
                  first
                  | exact Or.inl ⟨rfl, by omega, Or.inr ⟨m, by omega, by omega, (by rw [← f110, ← f121]; exact (p122hv.resolve_right (fun w => by have := w.1; omega)).2), (by rw [← f139, ← f150]; exact (p151hv.resolve_right (fun w => by have := w.1; omega)).2)⟩⟩
                  | exact Or.inr ⟨rfl, Or.inr (jWk_n hn (fun q => by have := q.1; omega))⟩
                  | exact Or.inr ⟨rfl, Or.inr (jWk_n hn (fun q => (p122hv.resolve_left (fun w => by have := w.1; omega)).2 (by rw [f110, f121]; exact q.2.1)))⟩
                  | exact Or.inr ⟨rfl, Or.inr (jWk_n hn (fun q => (p151hv.resolve_left (fun w => by have := w.1; omega)).2 (by rw [f139, f150]; exact q.2.2)))⟩
              · refine ⟨((101 - i), (101 - j), (51 - (m + 1))), zlt6 (by omega), [some (zvr (k)), some (zvi (t)), some (zvi (bb)), some (zvi (i)), some (zvi (j)), some (zvi (bo)), some (zvi ((1 : Int))), some (zvi ((m + 1)))], ⟨rfl, rfl, rfl, rfl, rfl, rfl, rfl, rfl, rfl⟩, i, j, (m + 1), bo, 1, rfl, rfl, rfl, rfl, rfl, rfl, (by omega), hbo, ?_, hS, (fun c j h0 => ((fr c j (by omega)).trans rfl))⟩
                · have hn : ¬ jWk d t i j m := by
                    rcases hjo with w | ⟨w1, w2 | w2⟩
                    · exfalso; omega
                    · exfalso; omega
                    · exact w2
                  first
                  | exact Or.inl ⟨rfl, by omega, Or.inr ⟨m, by omega, by omega, (by rw [← f110, ← f121]; exact (p122hv.resolve_right (fun w => by have := w.1; omega)).2), (by rw [← f139, ← f150]; exact (p151hv.resolve_right (fun w => by have := w.1; omega)).2)⟩⟩
                  | exact Or.inr ⟨rfl, Or.inr (jWk_n hn (fun q => by have := q.1; omega))⟩
                  | exact Or.inr ⟨rfl, Or.inr (jWk_n hn (fun q => (p122hv.resolve_left (fun w => by have := w.1; omega)).2 (by rw [f110, f121]; exact q.2.1)))⟩
                  | exact Or.inr ⟨rfl, Or.inr (jWk_n hn (fun q => (p151hv.resolve_left (fun w => by have := w.1; omega)).2 (by rw [f139, f150]; exact q.2.2)))⟩)
def T_J_place : ZT := fun args I L R S Q => ∃ (k : Nat) (d : JdS) (E : Nat → Nat → Prop) (aa : Int) (a : Nat) (tt : Int) (t : Nat) (bb : Int) (x : Int) (y : Int), args = [zvr k, zvi aa, zvi tt, zvi bb, zvl x, zvl y] ∧ (zDy zT18 zF18 k R S) ∧ (zNJ k d I L) ∧ (jGd d) ∧ (zJF (k + 18) E I) ∧ (tt = t ∧ t < dns d) ∧ (bb = dbs d t) ∧ (aa = a ∧ a < 3520) ∧ (jFar x ∧ jFar y) ∧ ∀ (I' : ZI), (zSp (k + 18) d t a x y E (dnw d) (dnl d) (dnt d) I') → (∀ c j : Nat, ¬ c = k + 18 → I' c j = I c j) → Q none I' L R S
theorem sn_J_place : ZSnd 3 18 15 T_J_place := ZSnd.loops (zT18_15 2) (by
  rintro args I L R S Q hz ⟨k, d, E, aa, a, tt, t, bb, x, y, rfl, hd, hNJ, hJG, hJF, ht, hbs, haa, hxy, hQ⟩
  have h5 := hd.1
  obtain ⟨⟨n1, n2, n3, n4, n5, n6, n7⟩, nS, nW, nD, nJ, nL, nT, nO, nP, nR⟩ := id hNJ
  obtain ⟨⟨g1, g2, g3, g4, g5, g6⟩, gs, gw, gj, gl, gp, gt⟩ := id hJG
  have hdt := gs t ht.2
  have hx9 : -1000000000 ≤ x ∧ x ≤ 1000000000 := hxy.1
  have hy9 : -1000000000 ≤ y ∧ y ≤ 1000000000 := hxy.2
  refine ⟨[3, 56, 133], fun nM tM lsM stM I1 L1 R1 S1 => match tM with
      | 3 => ∃ (i : Nat), nM = (3, (101 - i), 0) ∧ lsM = [some (zvr (k)), some (zvi (a)), some (zvi (t)), some (zvi (bb)), some (zvl (x)), none, some (zvl (y)), none, some (zvi (i))] ∧ stM = [] ∧ L1 = L ∧ R1 = R ∧ S1 = S ∧ (i ≤ dnw d) ∧ (zSp (k + 18) d t a x y E i 0 0 I1) ∧ (∀ c j : Nat, ¬ c = k + 18 → I1 c j = I c j)
      | 56 => ∃ (l : Nat), nM = (2, (101 - l), 0) ∧ lsM = [some (zvr (k)), some (zvi (a)), some (zvi (t)), some (zvi (bb)), some (zvl (x)), none, some (zvl (y)), none, some (zvi (l))] ∧ stM = [] ∧ L1 = L ∧ R1 = R ∧ S1 = S ∧ (l ≤ dnl d) ∧ (zSp (k + 18) d t a x y E (dnw d) l 0 I1) ∧ (∀ c j : Nat, ¬ c = k + 18 → I1 c j = I c j)
      | 133 => ∃ (p : Nat), nM = (1, (101 - p), 0) ∧ lsM = [some (zvr (k)), some (zvi (a)), some (zvi (t)), some (zvi (bb)), some (zvl (x)), none, some (zvl (y)), none, some (zvi (p))] ∧ stM = [] ∧ L1 = L ∧ R1 = R ∧ S1 = S ∧ (p ≤ dnt d) ∧ (zSp (k + 18) d t a x y E (dnw d) (dnl d) p I1) ∧ (∀ c j : Nat, ¬ c = k + 18 → I1 c j = I c j)
      | _ => False, rfl, ?_, ⟨?_, ?_, ?_, True.intro⟩⟩
  · refine ⟨(3, (101 - (0 : Nat)), 0), [some (zvr (k)), some (zvi (a)), some (zvi (t)), some (zvi (bb)), some (zvl (x)), none, some (zvl (y)), none, some (zvi ((0 : Nat)))], ⟨rfl, (congrArg (fun z => some (zvi z)) (by omega)), (congrArg (fun z => some (zvi z)) (by omega)), rfl, rfl, rfl, rfl, rfl⟩, 0, rfl, rfl, rfl, rfl, rfl, rfl, (by omega), (zSp_0 hJF), (fun c j h0 => rfl)⟩
  · rintro nM lsM stM I1 L1 R1 S1 hz1 ⟨i, rfl, rfl, rfl, rfl, rfl, rfl, hi, hS, fr⟩
    obtain ⟨F, hJ1, hga, hdn⟩ := id hS
    refine And.intro (zDX hd 0 rfl) (zrd (v := (dnw d)) ((fr k 4 (by omega)).trans n2) ?_)
    refine And.intro ⟨(by omega), (by omega)⟩ ⟨fun h9 => ?_, fun h9 => ?_⟩
    · refine ⟨(2, (101 - (0 : Nat)), 0), zlt6 (by omega), [some (zvr (k)), some (zvi (a)), some (zvi (t)), some (zvi (bb)), some (zvl (x)), none, some (zvl (y)), none, some (zvi ((0 : Nat)))], ⟨rfl, rfl, rfl, rfl, rfl, rfl, rfl, rfl⟩, 0, rfl, rfl, rfl, rfl, rfl, rfl, (by omega), (by obtain rfl : i = dnw d := (by omega); exact hS), (fun c j h0 => ((fr c j (by omega)).trans rfl))⟩
    · refine And.intro (zDX hd 0 rfl) (Exists.intro _ (And.intro (zinl_ok (zT18_9 1)) (And.intro rfl ?_)))
      refine And.intro (zDX hd 0 rfl) (zrdR (v := some (k + 3)) (zDR hd 2 rfl) ?_)
      refine And.intro (zDP hd 3 rfl rfl (by omega) (by omega)) (fun v5_16 e5_16 r5_16 => ?_)
      have f5_16 : v5_16 = dW d i 0 := (e5_16.trans ((congrArg (I1 (k + 3)) (by omega)).trans ((fr (k + 3) i (by omega)).trans (nW i (by omega)).1)))
      refine And.intro ⟨r5_16, (by omega)⟩ ⟨fun h7_16 => ?_, fun h7_16 => ?_⟩
      · refine And.intro (Or.inl rfl) ?_
        refine And.intro (zRb rfl) (zbt rfl ?_)
        refine ⟨(3, (101 - (i + 1)), 0), zlt6 (by omega), [some (zvr (k)), some (zvi (a)), some (zvi (t)), some (zvi (bb)), some (zvl (x)), none, some (zvl (y)), none, some (zvi ((i + 1)))], ⟨rfl, rfl, rfl, rfl, rfl, rfl, rfl, rfl⟩, (i + 1), rfl, rfl, rfl, rfl, rfl, rfl, (by omega), ?_, (fun c j h0 => ((fr c j (by omega)).trans rfl))⟩
        · first
          | exact zSp_a p44hJF2 hga hdn (Or.inl ⟨i, by omega, by omega, (p29hv.resolve_right (fun w => by have := w.1; omega)).2, rfl⟩) jAq_w1
          | exact zSp_n hS (jAq_w (fun q => by have := q.1; omega))
          | exact zSp_n hS (jAq_w (fun q => (p29hv.resolve_left (fun w => by have := w.1; omega)).2 q.2))
      · refine And.intro (zDX hd 0 rfl) (zrdR (v := some (k + 5)) (zDR hd 4 rfl) ?_)
        refine And.intro (Or.inr (zDP hd 5 rfl rfl (by omega) (by omega))) (fun v15_16 e15_16 r15_16 => ?_)
        have f15_16 : v15_16 = 0 := (e15_16.trans ((congrArg (I1 (k + 5)) (by omega)).trans ((fr (k + 5) i (by omega)).trans (nD i (by omega)))))
        refine And.intro r15_16 ⟨(fun h16_16 => False.elim (by omega)), fun h16_16 => ?_⟩
        refine And.intro (Or.inr rfl) ?_
        refine And.intro (zRb rfl) (zbf rfl ?_)
        refine And.intro (zDX hd 0 rfl) ⟨_, sn_J_thr.up (by decide), ?_⟩
        refine ⟨k, d, (i : Int), i, (x : Int), (y : Int), rfl, hd, (zNJ_fr hNJ (fun c j h => fr c j (by omega)) (fun c j h => rfl)), (by first | exact hJG | (clear hQ; grind [xu])), (by omega), (by omega), (by first | exact hxy | (clear hQ; grind [xu])), ?_⟩
        intro v29o p29hv
        refine And.intro (by omega) ⟨fun h32 => ?_, fun h32 => ?_⟩
        · refine ⟨(3, (101 - (i + 1)), 0), zlt6 (by omega), [some (zvr (k)), some (zvi (a)), some (zvi (t)), some (zvi (bb)), some (zvl (x)), none, some (zvl (y)), none, some (zvi ((i + 1)))], ⟨rfl, rfl, rfl, rfl, rfl, rfl, rfl, rfl⟩, (i + 1), rfl, rfl, rfl, rfl, rfl, rfl, (by omega), ?_, (fun c j h0 => ((fr c j (by omega)).trans rfl))⟩
          · first
            | exact zSp_a p44hJF2 hga hdn (Or.inl ⟨i, by omega, by omega, (p29hv.resolve_right (fun w => by have := w.1; omega)).2, rfl⟩) jAq_w1
            | exact zSp_n hS (jAq_w (fun q => by have := q.1; omega))
            | exact zSp_n hS (jAq_w (fun q => (p29hv.resolve_left (fun w => by have := w.1; omega)).2 q.2))
        · refine And.intro (zDX hd 0 rfl) ⟨_, sn_J_join.up (by decide), ?_⟩
          refine ⟨k, F, (a : Int), a, (((16 * i) + t) : Int), (16 * i + t), rfl, hd, hJ1, (by omega), (by omega), ?_⟩
          intro I44o p44hJF2 p44bfr
          refine ⟨(3, (101 - (i + 1)), 0), zlt6 (by omega), [some (zvr (k)), some (zvi (a)), some (zvi (t)), some (zvi (bb)), some (zvl (x)), none, some (zvl (y)), none, some (zvi ((i + 1)))], ⟨rfl, rfl, rfl, rfl, rfl, rfl, rfl, rfl⟩, (i + 1), rfl, rfl, rfl, rfl, rfl, rfl, (by omega), ?_, (fun c j h0 => ((p44bfr c j (by omega)).trans ((fr c j (by omega)).trans rfl)))⟩
          · first
            | exact zSp_a p44hJF2 hga hdn (Or.inl ⟨i, by omega, by omega, (p29hv.resolve_right (fun w => by have := w.1; omega)).2, rfl⟩) jAq_w1
            | exact zSp_n hS (jAq_w (fun q => by have := q.1; omega))
            | exact zSp_n hS (jAq_w (fun q => (p29hv.resolve_left (fun w => by have := w.1; omega)).2 q.2))
  · rintro nM lsM stM I1 L1 R1 S1 hz1 ⟨l, rfl, rfl, rfl, rfl, rfl, rfl, hi, hS, fr⟩
    obtain ⟨F, hJ1, hga, hdn⟩ := id hS
    refine And.intro (zDX hd 0 rfl) (zrd (v := (dnl d)) ((fr k 11 (by omega)).trans n4) ?_)
    refine And.intro ⟨(by omega), (by omega)⟩ ⟨fun h62 => ?_, fun h62 => ?_⟩
    · refine ⟨(1, (101 - (0 : Nat)), 0), zlt6 (by omega), [some (zvr (k)), some (zvi (a)), some (zvi (t)), some (zvi (bb)), some (zvl (x)), none, some (zvl (y)), none, some (zvi ((0 : Nat)))], ⟨rfl, rfl, rfl, rfl, rfl, rfl, rfl, rfl⟩, 0, rfl, rfl, rfl, rfl, rfl, rfl, (by omega), (by obtain rfl : l = dnl d := (by omega); exact hS), (fun c j h0 => ((fr c j (by omega)).trans rfl))⟩
    · refine And.intro (zDX hd 0 rfl) (zrdR (v := some (k + 8)) (zDR hd 7 rfl) ?_)
      refine And.intro (zDP hd 8 rfl rfl (by omega) (by omega)) (fun v71 e71 r71 => ?_)
      have f71 : v71 = dL d l 0 := (e71.trans ((congrArg (I1 (k + 8)) (by omega)).trans ((fr (k + 8) l (by omega)).trans (nL l (by omega)).1)))
      refine And.intro ⟨r71, (by omega)⟩ ⟨fun h73 => ?_, fun h73 => ?_⟩
      · refine ⟨(2, (101 - (l + 1)), 0), zlt6 (by omega), [some (zvr (k)), some (zvi (a)), some (zvi (t)), some (zvi (bb)), some (zvl (x)), none, some (zvl (y)), none, some (zvi ((l + 1)))], ⟨rfl, rfl, rfl, rfl, rfl, rfl, rfl, rfl⟩, (l + 1), rfl, rfl, rfl, rfl, rfl, rfl, (by omega), ?_, (fun c j h0 => ((fr c j (by omega)).trans rfl))⟩
        · first
          | exact zSp_a p121hJF2 hga hdn (Or.inr (Or.inl ⟨l, by omega, by omega, by omega, by omega, rfl⟩)) jAq_l1
          | exact zSp_n hS (jAq_l (fun q => by have := q.1; have := q.2.1; have := q.2.2; omega))
      · refine And.intro (zDX hd 0 rfl) (zrdR (v := some (k + 10)) (zDR hd 9 rfl) ?_)
        refine And.intro (zDP hd 10 rfl rfl (by omega) (by omega)) (fun v84 e84 r84 => ?_)
        have f84 : v84 = dL d l 1 := (e84.trans ((congrArg (L1 (k + 10)) (by omega)).trans (nL l (by omega)).2.2.1))
        refine ⟨_, _, ⟨zW6i r84, zW6i (by omega)⟩, fun z87 c87 => ?_⟩
        refine And.intro c87.2.2 ⟨fun h88 => ?_, fun h88 => ?_⟩
        · refine ⟨(2, (101 - (l + 1)), 0), zlt6 (by omega), [some (zvr (k)), some (zvi (a)), some (zvi (t)), some (zvi (bb)), some (zvl (x)), none, some (zvl (y)), none, some (zvi ((l + 1)))], ⟨rfl, rfl, rfl, rfl, rfl, rfl, rfl, rfl⟩, (l + 1), rfl, rfl, rfl, rfl, rfl, rfl, (by omega), ?_, (fun c j h0 => ((fr c j (by omega)).trans rfl))⟩
          · first
            | exact zSp_a p121hJF2 hga hdn (Or.inr (Or.inl ⟨l, by omega, by omega, by omega, by omega, rfl⟩)) jAq_l1
            | exact zSp_n hS (jAq_l (fun q => by have := q.1; have := q.2.1; have := q.2.2; omega))
        · refine And.intro (zDX hd 0 rfl) (zrdR (v := some (k + 10)) (zDR hd 9 rfl) ?_)
          refine And.intro (zDP hd 10 rfl rfl (by omega) (by omega)) (fun v101 e101 r101 => ?_)
          have f101 : v101 = dL d l 2 := (e101.trans ((congrArg (L1 (k + 10)) (by omega)).trans (nL l (by omega)).2.2.2))
          refine ⟨_, _, ⟨zW6i r101, zW6i (by omega)⟩, fun z104 c104 => ?_⟩
          refine And.intro c104.2.2 ⟨fun h105 => ?_, fun h105 => ?_⟩
          · refine ⟨(2, (101 - (l + 1)), 0), zlt6 (by omega), [some (zvr (k)), some (zvi (a)), some (zvi (t)), some (zvi (bb)), some (zvl (x)), none, some (zvl (y)), none, some (zvi ((l + 1)))], ⟨rfl, rfl, rfl, rfl, rfl, rfl, rfl, rfl⟩, (l + 1), rfl, rfl, rfl, rfl, rfl, rfl, (by omega), ?_, (fun c j h0 => ((fr c j (by omega)).trans rfl))⟩
            · first
              | exact zSp_a p121hJF2 hga hdn (Or.inr (Or.inl ⟨l, by omega, by omega, by omega, by omega, rfl⟩)) jAq_l1
              | exact zSp_n hS (jAq_l (fun q => by have := q.1; have := q.2.1; have := q.2.2; omega))
          · refine And.intro (zDX hd 0 rfl) ⟨_, sn_J_join.up (by decide), ?_⟩
            refine ⟨k, F, (a : Int), a, (((1600 + (16 * l)) + t) : Int), (1600 + 16 * l + t), rfl, hd, hJ1, (by omega), (by omega), ?_⟩
            intro I121o p121hJF2 p121bfr
            refine ⟨(2, (101 - (l + 1)), 0), zlt6 (by omega), [some (zvr (k)), some (zvi (a)), some (zvi (t)), some (zvi (bb)), some (zvl (x)), none, some (zvl (y)), none, some (zvi ((l + 1)))], ⟨rfl, rfl, rfl, rfl, rfl, rfl, rfl, rfl⟩, (l + 1), rfl, rfl, rfl, rfl, rfl, rfl, (by omega), ?_, (fun c j h0 => ((p121bfr c j (by omega)).trans ((fr c j (by omega)).trans rfl)))⟩
            · first
              | exact zSp_a p121hJF2 hga hdn (Or.inr (Or.inl ⟨l, by omega, by omega, by omega, by omega, rfl⟩)) jAq_l1
              | exact zSp_n hS (jAq_l (fun q => by have := q.1; have := q.2.1; have := q.2.2; omega))
  · rintro nM lsM stM I1 L1 R1 S1 hz1 ⟨p, rfl, rfl, rfl, rfl, rfl, rfl, hi, hS, fr⟩
    obtain ⟨F, hJ1, hga, hdn⟩ := id hS
    refine And.intro (zDX hd 0 rfl) (zrd (v := (dnt d)) ((fr k 15 (by omega)).trans n5) ?_)
    refine And.intro ⟨(by omega), (by omega)⟩ ⟨fun h139 => ?_, fun h139 => ?_⟩
    · refine hQ _ (by obtain rfl : p = dnt d := (by omega); exact hS) (fun c j h0 => ((fr c j (by omega)).trans rfl))
    · refine And.intro (zDX hd 0 rfl) (zrdR (v := some (k + 11)) (zDR hd 10 rfl) ?_)
      refine And.intro (zDP hd 11 rfl rfl (by omega) (by omega)) (fun v148 e148 r148 => ?_)
      have f148 : v148 = dT d p 0 := (e148.trans ((congrArg (I1 (k + 11)) (by omega)).trans ((fr (k + 11) p (by omega)).trans (nT p (by omega)).1)))
      refine And.intro ⟨r148, (by omega)⟩ ⟨fun h150 => ?_, fun h150 => ?_⟩
      · refine ⟨(1, (101 - (p + 1)), 0), zlt6 (by omega), [some (zvr (k)), some (zvi (a)), some (zvi (t)), some (zvi (bb)), some (zvl (x)), none, some (zvl (y)), none, some (zvi ((p + 1)))], ⟨rfl, rfl, rfl, rfl, rfl, rfl, rfl, rfl⟩, (p + 1), rfl, rfl, rfl, rfl, rfl, rfl, (by omega), ?_, (fun c j h0 => ((fr c j (by omega)).trans rfl))⟩
        · first
          | exact zSp_a p198hJF2 hga hdn (Or.inr (Or.inr ⟨p, by omega, by omega, by omega, by omega, rfl⟩)) jAq_p1
          | exact zSp_n hS (jAq_p (fun q => by have := q.1; have := q.2.1; have := q.2.2; omega))
      · refine And.intro (zDX hd 0 rfl) (zrdR (v := some (k + 13)) (zDR hd 12 rfl) ?_)
        refine And.intro (zDP hd 13 rfl rfl (by omega) (by omega)) (fun v161 e161 r161 => ?_)
        have f161 : v161 = dT d p 1 := (e161.trans ((congrArg (L1 (k + 13)) (by omega)).trans (nT p (by omega)).2.2.1))
        refine ⟨_, _, ⟨zW6i r161, zW6i (by omega)⟩, fun z164 c164 => ?_⟩
        refine And.intro c164.2.2 ⟨fun h165 => ?_, fun h165 => ?_⟩
        · refine ⟨(1, (101 - (p + 1)), 0), zlt6 (by omega), [some (zvr (k)), some (zvi (a)), some (zvi (t)), some (zvi (bb)), some (zvl (x)), none, some (zvl (y)), none, some (zvi ((p + 1)))], ⟨rfl, rfl, rfl, rfl, rfl, rfl, rfl, rfl⟩, (p + 1), rfl, rfl, rfl, rfl, rfl, rfl, (by omega), ?_, (fun c j h0 => ((fr c j (by omega)).trans rfl))⟩
          · first
            | exact zSp_a p198hJF2 hga hdn (Or.inr (Or.inr ⟨p, by omega, by omega, by omega, by omega, rfl⟩)) jAq_p1
            | exact zSp_n hS (jAq_p (fun q => by have := q.1; have := q.2.1; have := q.2.2; omega))
        · refine And.intro (zDX hd 0 rfl) (zrdR (v := some (k + 13)) (zDR hd 12 rfl) ?_)
          refine And.intro (zDP hd 13 rfl rfl (by omega) (by omega)) (fun v178 e178 r178 => ?_)
          have f178 : v178 = dT d p 2 := (e178.trans ((congrArg (L1 (k + 13)) (by omega)).trans (nT p (by omega)).2.2.2))
          refine ⟨_, _, ⟨zW6i r178, zW6i (by omega)⟩, fun z181 c181 => ?_⟩
          refine And.intro c181.2.2 ⟨fun h182 => ?_, fun h182 => ?_⟩
          · refine ⟨(1, (101 - (p + 1)), 0), zlt6 (by omega), [some (zvr (k)), some (zvi (a)), some (zvi (t)), some (zvi (bb)), some (zvl (x)), none, some (zvl (y)), none, some (zvi ((p + 1)))], ⟨rfl, rfl, rfl, rfl, rfl, rfl, rfl, rfl⟩, (p + 1), rfl, rfl, rfl, rfl, rfl, rfl, (by omega), ?_, (fun c j h0 => ((fr c j (by omega)).trans rfl))⟩
            · first
              | exact zSp_a p198hJF2 hga hdn (Or.inr (Or.inr ⟨p, by omega, by omega, by omega, by omega, rfl⟩)) jAq_p1
              | exact zSp_n hS (jAq_p (fun q => by have := q.1; have := q.2.1; have := q.2.2; omega))
          · refine And.intro (zDX hd 0 rfl) ⟨_, sn_J_join.up (by decide), ?_⟩
            refine ⟨k, F, (a : Int), a, (((2560 + (16 * p)) + t) : Int), (2560 + 16 * p + t), rfl, hd, hJ1, (by omega), (by omega), ?_⟩
            intro I198o p198hJF2 p198bfr
            refine ⟨(1, (101 - (p + 1)), 0), zlt6 (by omega), [some (zvr (k)), some (zvi (a)), some (zvi (t)), some (zvi (bb)), some (zvl (x)), none, some (zvl (y)), none, some (zvi ((p + 1)))], ⟨rfl, rfl, rfl, rfl, rfl, rfl, rfl, rfl⟩, (p + 1), rfl, rfl, rfl, rfl, rfl, rfl, (by omega), ?_, (fun c j h0 => ((p198bfr c j (by omega)).trans ((fr c j (by omega)).trans rfl)))⟩
            · first
              | exact zSp_a p198hJF2 hga hdn (Or.inr (Or.inr ⟨p, by omega, by omega, by omega, by omega, rfl⟩)) jAq_p1
              | exact zSp_n hS (jAq_p (fun q => by have := q.1; have := q.2.1; have := q.2.2; omega)))
