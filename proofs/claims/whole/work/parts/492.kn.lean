/-! kn -/
def T_K_knd : ZT := fun args I L R S Q => ∃ (c : Nat → Int) (n : Nat) (p : Int) (p_ : Nat) (q : Int) (q_ : Nat), args = [zvr 61, zvi p, zvi q] ∧ (zSh S) ∧ (zRs R) ∧ (R 61 0 = some 42) ∧ (zRD c n I) ∧ (tOk c n) ∧ (p = p_ ∧ p_ ≤ q_) ∧ (q = q_ ∧ q_ ≤ n) ∧ ∀ (v : Int), (v = tKd c p_ q_) → (0 ≤ v ∧ v ≤ 9) → Q (some (zvi (v))) I L R S
theorem sn_K_knd : ZSnd 2 9 11 T_K_knd := ZSnd.loops (zT9_11 1) (by
  rintro args I L R S Q hz ⟨c, n, p, p_, q, q_, rfl, hS, hR, htx, hX, hc, hp, hq, hQ⟩
  obtain ⟨x1, x2⟩ := id hX
  have hn4 := hc.1
  refine ⟨[2, 35], fun nM tM lsM stM I1 L1 R1 S1 => match tM with
      | 2 => ∃ (a : Nat), nM = ((10 - a), 1, 0) ∧ lsM = [some (zvr (61)), some (zvi (p_)), some (zvi (q_)), some (zvi (a)), none, none, none] ∧ stM = [] ∧ I1 = I ∧ L1 = L ∧ R1 = R ∧ S1 = S ∧ (a ≤ 9) ∧ (∀ b, b < a → ¬ tIs c p_ q_ b)
      | 35 => ∃ (a : Nat) (u : Nat) (i : Nat) (s : Int), nM = ((10 - a), 0, (12 - i)) ∧ lsM = [some (zvr (61)), some (zvi (p_)), some (zvi (q_)), some (zvi (a)), some (zvr (u)), some (zvi (s)), some (zvi (i))] ∧ stM = [] ∧ I1 = I ∧ L1 = L ∧ R1 = R ∧ S1 = S ∧ (a ≤ 8) ∧ (∀ b, b < a → ¬ tIs c p_ q_ b) ∧ (u = 10 + a) ∧ (i ≤ 11) ∧ ((s = 1 ∧ ((tsb a).length : Int) = q_ - p_ ∧ i ≤ (tsb a).length ∧ ∀ j, j < i → c (p_ + j) = tWd a j) ∨ (s = 0 ∧ ¬ tIs c p_ q_ a)) ∧ (0 ≤ s ∧ s ≤ 1)
      | _ => False, rfl, ?_, ⟨?_, ?_, True.intro⟩⟩
  · refine ⟨((10 - (0 : Nat)), 1, 0), [some (zvr (61)), some (zvi (p_)), some (zvi (q_)), some (zvi ((0 : Nat))), none, none, none], ⟨rfl, (congrArg (fun z => some (zvi z)) (by omega)), (congrArg (fun z => some (zvi z)) (by omega)), rfl, rfl⟩, 0, rfl, rfl, rfl, rfl, rfl, rfl, rfl, (by omega), (fun b h => absurd h (Nat.not_lt_zero b))⟩
  · rintro nM lsM stM I1 L1 R1 S1 hz1 ⟨a, rfl, rfl, rfl, rfl, rfl, rfl, rfl, ha, hl⟩
    refine And.intro ⟨(by omega), (zRb rfl)⟩ ⟨fun h5 => ?_, fun h5 => ?_⟩
    · refine hQ _ ?_ (by omega)
      · first
        | (rcases hs with w | w
           · exact (tKd_at (by omega) ⟨by omega, fun j hj => w.2.2.2 j (by omega)⟩ hl).symm
           · exfalso; omega)
        | (obtain rfl : a = 9 := by omega
           exact (tKd_no hl).symm)
    · refine ⟨_, sn_O_wrd.up (by decide), ?_⟩
      refine ⟨(a : Int), a, rfl, (by omega), ?_⟩
      intro u9o p9hu
      have g9 : u9o - 10 = a := (by omega)
      have g9b : ((tsb (u9o - 10)).length : Int) = ((tsb a).length : Int) := (by rw [g9])
      refine And.intro ⟨by omega, by omega⟩ ?_
      have c16 := tsb_l (u9o - 10)
      refine And.intro ⟨(by omega), (by omega)⟩ ⟨fun h22 => ?_, fun h22 => ?_⟩
      · refine ⟨((10 - a), 0, (12 - (0 : Nat))), zlt6 (by omega), [some (zvr (61)), some (zvi (p_)), some (zvi (q_)), some (zvi (a)), some (zvr (u9o)), some (zvi ((0 : Int))), some (zvi ((0 : Nat)))], ⟨rfl, rfl, rfl, rfl, rfl, rfl, rfl, rfl⟩, a, u9o, 0, 0, rfl, rfl, rfl, rfl, rfl, rfl, rfl, (by omega), hl, (by omega), (by omega), (by first | exact Or.inl ⟨rfl, by omega, Nat.zero_le _, fun j h => absurd h (Nat.not_lt_zero j)⟩ | exact Or.inr ⟨rfl, fun w => by have w1 := w.1; omega⟩), (by omega)⟩
      · refine ⟨((10 - a), 0, (12 - (0 : Nat))), zlt6 (by omega), [some (zvr (61)), some (zvi (p_)), some (zvi (q_)), some (zvi (a)), some (zvr (u9o)), some (zvi ((1 : Int))), some (zvi ((0 : Nat)))], ⟨rfl, rfl, rfl, rfl, rfl, rfl, rfl, rfl⟩, a, u9o, 0, 1, rfl, rfl, rfl, rfl, rfl, rfl, rfl, (by omega), hl, (by omega), (by omega), (by first | exact Or.inl ⟨rfl, by omega, Nat.zero_le _, fun j h => absurd h (Nat.not_lt_zero j)⟩ | exact Or.inr ⟨rfl, fun w => by have w1 := w.1; omega⟩), (by omega)⟩
  · rintro nM lsM stM I1 L1 R1 S1 hz1 ⟨a, u, i, s, rfl, rfl, rfl, rfl, rfl, rfl, rfl, ha, hl, hu, hi, hs, hs2⟩
    have hu2 : u - 10 = a := by omega
    have hul : ((tsb (u - 10)).length : Int) = ((tsb a).length : Int) := by rw [hu2]
    have hcu : (((tsb (u - 10)).getD (i : Int).toNat 0 : Nat) : Int) = tWd a i := by rw [hu2]; rfl
    refine And.intro ⟨by omega, by omega⟩ ?_
    have c39 := tsb_l (u - 10)
    refine And.intro ⟨(by omega), (by omega)⟩ ⟨fun h42 => ?_, fun h42 => ?_⟩
    · refine And.intro (by omega) ⟨fun h84 => ?_, fun h84 => ?_⟩
      · refine ⟨((10 - (a + 1)), 1, 0), zlt6 (by omega), [some (zvr (61)), some (zvi (p_)), some (zvi (q_)), some (zvi ((a + 1))), none, none, none], ⟨rfl, rfl, rfl, rfl, rfl⟩, (a + 1), rfl, rfl, rfl, rfl, rfl, rfl, rfl, (by omega), ?_⟩
        · intro b hb
          by_cases e : b = a
          · rw [e]
            rcases hs with w | w
            · exfalso; omega
            · exact w.2
          · exact hl b (by omega)
      · refine hQ _ ?_ (by omega)
        · first
          | (rcases hs with w | w
             · exact (tKd_at (by omega) ⟨by omega, fun j hj => w.2.2.2 j (by omega)⟩ hl).symm
             · exfalso; omega)
          | (obtain rfl : a = 9 := by omega
             exact (tKd_no hl).symm)
    · refine And.intro (by omega) ⟨fun h47 => ?_, fun h47 => ?_⟩
      · refine And.intro (by omega) ⟨fun h84 => ?_, (fun h84 => False.elim (by omega))⟩
        refine ⟨((10 - (a + 1)), 1, 0), zlt6 (by omega), [some (zvr (61)), some (zvi (p_)), some (zvi (q_)), some (zvi ((a + 1))), none, none, none], ⟨rfl, rfl, rfl, rfl, rfl⟩, (a + 1), rfl, rfl, rfl, rfl, rfl, rfl, rfl, (by omega), ?_⟩
        · intro b hb
          by_cases e : b = a
          · rw [e]
            rcases hs with w | w
            · exfalso; omega
            · exact w.2
          · exact hl b (by omega)
      · refine And.intro (zA_61 hS) (zrdR (v := some 42) htx ?_)
        refine And.intro (zP_42 hS (by omega) (by omega)) (fun v58 e58 r58 => ?_)
        have f58 : v58 = c (p_ + i) := (e58.trans ((congrArg (I1 42) (by omega)).trans (x2 (p_ + i) (by omega))))
        refine And.intro ⟨⟨by omega, by omega⟩, by omega, by omega⟩ ?_
        have c63 := tsb_b (u - 10) (i : Int).toNat
        refine And.intro ⟨r58, (by omega)⟩ ⟨fun h66 => ?_, fun h66 => ?_⟩
        · have t66 : c (p_ + i) ≠ tWd a i := (by omega)
          refine ⟨((10 - a), 0, (12 - (i + 1))), zlt6 (by omega), [some (zvr (61)), some (zvi (p_)), some (zvi (q_)), some (zvi (a)), some (zvr (u)), some (zvi ((0 : Int))), some (zvi ((i + 1)))], ⟨rfl, rfl, rfl, rfl, rfl, rfl, rfl, rfl⟩, a, u, (i + 1), 0, rfl, rfl, rfl, rfl, rfl, rfl, rfl, (by omega), hl, (by omega), (by omega), ?_, (by omega)⟩
          · rcases hs with w | w
            · first
              | (refine Or.inl ⟨rfl, w.2.1, by omega, fun j hj => ?_⟩
                 by_cases e : j = i
                 · rw [e]; exact t66
                 · exact w.2.2.2 j (by omega))
              | exact Or.inr ⟨rfl, fun z => t66 (z.2 i (by omega))⟩
            · exfalso; omega
        · have t66 : c (p_ + i) = tWd a i := (by omega)
          refine ⟨((10 - a), 0, (12 - (i + 1))), zlt6 (by omega), [some (zvr (61)), some (zvi (p_)), some (zvi (q_)), some (zvi (a)), some (zvr (u)), some (zvi ((1 : Int))), some (zvi ((i + 1)))], ⟨rfl, rfl, rfl, rfl, rfl, rfl, rfl, rfl⟩, a, u, (i + 1), 1, rfl, rfl, rfl, rfl, rfl, rfl, rfl, (by omega), hl, (by omega), (by omega), ?_, (by omega)⟩
          · rcases hs with w | w
            · first
              | (refine Or.inl ⟨rfl, w.2.1, by omega, fun j hj => ?_⟩
                 by_cases e : j = i
                 · rw [e]; exact t66
                 · exact w.2.2.2 j (by omega))
              | exact Or.inr ⟨rfl, fun z => t66 (z.2 i (by omega))⟩
            · exfalso; omega)
