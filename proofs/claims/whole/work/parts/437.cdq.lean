/-! cd5 -/
def T_C_hasp : ZT := fun args I L R S Q => ∃ (d : JdS) (ob : Nat → Int) (s : Int) (x : Int) (y : Int), args = [zvr 76, zvi s, zvi x, zvi y] ∧ (zSh S) ∧ (zRs R) ∧ (zDA d ob I) ∧ (jGd d) ∧ (r32 s ∧ r32 x ∧ r32 y) ∧ ∀ (v : Int), ((v = 1 ∧ ∃ p, p < dnt d ∧ dT d p 0 = s ∧ dT d p 1 = x ∧ dT d p 2 = y) ∨ (v = 0 ∧ ∀ p, p < dnt d → ¬ (dT d p 0 = s ∧ dT d p 1 = x ∧ dT d p 2 = y))) → Q (some (zvi (v))) I L R S
theorem sn_C_hasp : ZSnd 3 3 11 T_C_hasp := ZSnd.loops (zT3_11 2) (by
  rintro args I L R S Q hz ⟨d, ob, s, x, y, rfl, hS, hR, hDA, hJG, hr, hQ⟩
  obtain ⟨hSR, hCS, hWR, hJR, hLR, hPR, hTR⟩ := id hDA
  obtain ⟨⟨g1, g2, g3, g4, g5, g6⟩, gs, gw, gj, gl, gp, gt⟩ := id hJG
  obtain ⟨c1_, c2_, c3_, c4_⟩ := id hSR
  obtain ⟨w1_, w2_, w3_, w4_⟩ := id hWR
  obtain ⟨j1_, j2_, j3_, j4_⟩ := id hJR
  obtain ⟨l1_, l2_, l3_, l4_⟩ := id hLR
  obtain ⟨p1_, p2_, p3_, p4_⟩ := id hPR
  obtain ⟨t1_, t2_, t3_, t4_⟩ := id hTR
  refine ⟨[6], fun nM tM lsM stM I1 L1 R1 S1 => match tM with
      | 6 => ∃ (j : Nat) (a : Int), nM = ((61 - j), 0, 0) ∧ lsM = [some (zvr (76)), some (zvi (s)), some (zvi (x)), some (zvi (y)), some (zvi (a)), some (zvi (j))] ∧ stM = [] ∧ I1 = I ∧ L1 = L ∧ R1 = R ∧ S1 = S ∧ (j ≤ dnt d) ∧ ((a = 1 ∧ ∃ p, p < dnt d ∧ dT d p 0 = s ∧ dT d p 1 = x ∧ dT d p 2 = y) ∨ (a = 0 ∧ ∀ p, p < j → ¬ (dT d p 0 = s ∧ dT d p 1 = x ∧ dT d p 2 = y))) ∧ (0 ≤ a ∧ a ≤ 1)
      | _ => False, rfl, ?_, ⟨?_, True.intro⟩⟩
  · refine ⟨((61 - (0 : Nat)), 0, 0), [some (zvr (76)), some (zvi (s)), some (zvi (x)), some (zvi (y)), some (zvi ((0 : Int))), some (zvi ((0 : Nat)))], ⟨rfl, rfl, rfl, rfl, rfl, rfl, rfl⟩, 0, 0, rfl, rfl, rfl, rfl, rfl, rfl, rfl, (by omega), (Or.inr ⟨rfl, fun p h => absurd h (Nat.not_lt_zero p)⟩), (by omega)⟩
  · rintro nM lsM stM I1 L1 R1 S1 hz1 ⟨j, a, rfl, rfl, rfl, rfl, rfl, rfl, rfl, hj, ha, ha9⟩
    refine And.intro (zA_76 hS) (zrd (v := (dnt d)) t2_ ?_)
    refine And.intro ⟨(by omega), (by omega)⟩ ⟨fun h12 => ?_, fun h12 => ?_⟩
    · refine And.intro (by omega) ?_
      refine hQ _ ?_
      · rcases ha with u | u
        · exact Or.inl u
        · first
          | (exfalso; omega)
          | (obtain rfl : j = dnt d := (by omega)
             exact Or.inr u)
    · refine And.intro (by omega) ⟨fun h17 => ?_, fun h17 => ?_⟩
      · refine And.intro (by omega) ?_
        refine hQ _ ?_
        · rcases ha with u | u
          · exact Or.inl u
          · first
            | (exfalso; omega)
            | (obtain rfl : j = dnt d := (by omega)
               exact Or.inr u)
      · refine ⟨_, sn_C_at.up (by decide), ?_⟩
        refine ⟨76, _, _, (dT d), (j : Int), j, (s : Int), (x : Int), (y : Int), rfl, hS, hR, (zRw_76 hR hS), (by first | exact (zRT_fr hTR (fun c j h => rfl)) | (clear hQ; grind [xu])), (by omega), (by omega), ?_⟩
        intro v26o p26hv
        refine ⟨((61 - (j + 1)), 0, 0), zlt6 (by omega), [some (zvr (76)), some (zvi (s)), some (zvi (x)), some (zvi (y)), some (zvi (v26o)), some (zvi ((j + 1)))], ⟨rfl, rfl, rfl, rfl, rfl, rfl, rfl⟩, (j + 1), v26o, rfl, rfl, rfl, rfl, rfl, rfl, rfl, (by omega), ?_, (by omega)⟩
        · rcases p26hv with w | w
          · exact Or.inl ⟨w.1, j, by omega, w.2⟩
          · refine Or.inr ⟨w.1, fun p hp => ?_⟩
            by_cases e : p = j
            · rw [e]; exact w.2
            · rcases ha with u | u
              · exfalso; omega
              · exact u.2 p (by omega))
def T_C_iso : ZT := fun args I L R S Q => ∃ (d : JdS) (ob : Nat → Int) (x : Int) (l : Nat), args = [zvr 63, zvi x] ∧ (zSh S) ∧ (zRs R) ∧ (zDA d ob I) ∧ (jGd d) ∧ (x = l ∧ l < dnl d) ∧ ∀ (v : Int), ((v = 1 ∧ jBare d l) ∨ (v = 0 ∧ ¬ jBare d l)) → Q (some (zvi (v))) I L R S
theorem sn_C_iso : ZSnd 4 3 15 T_C_iso := ZSnd.loops (zT3_15 3) (by
  rintro args I L R S Q hz ⟨d, ob, x, l, rfl, hS, hR, hDA, hJG, hx, hQ⟩
  obtain ⟨hSR, hCS, hWR, hJR, hLR, hPR, hTR⟩ := id hDA
  obtain ⟨⟨g1, g2, g3, g4, g5, g6⟩, gs, gw, gj, gl, gp, gt⟩ := id hJG
  obtain ⟨c1_, c2_, c3_, c4_⟩ := id hSR
  obtain ⟨w1_, w2_, w3_, w4_⟩ := id hWR
  obtain ⟨j1_, j2_, j3_, j4_⟩ := id hJR
  obtain ⟨l1_, l2_, l3_, l4_⟩ := id hLR
  obtain ⟨p1_, p2_, p3_, p4_⟩ := id hPR
  obtain ⟨t1_, t2_, t3_, t4_⟩ := id hTR
  refine ⟨[55], fun nM tM lsM stM I1 L1 R1 S1 => match tM with
      | 55 => ∃ (i : Nat) (ee : Int) (s : Int) (a : Int) (b : Int), nM = ((101 - i), 0, 0) ∧ lsM = [some (zvr (63)), some (zvi (l)), some (zvi (s)), some (zvi (a)), some (zvi (b)), some (zvi (ee)), some (zvi (i))] ∧ stM = [] ∧ I1 = I ∧ L1 = L ∧ R1 = R ∧ S1 = S ∧ (i ≤ dnw d) ∧ (s = dL d l 0 ∧ a = dL d l 1 ∧ b = dL d l 2) ∧ (r32 s ∧ r32 a ∧ r32 b) ∧ ((ee = 1 ∧ (∀ p, p < dnt d → ¬ (dT d p 0 = dL d l 0 ∧ dT d p 1 = dL d l 1 ∧ dT d p 2 = dL d l 2)) ∧ ∀ w, w < i → ¬ (dW d w 0 = dL d l 0 ∧ jTh (dW d) w (dL d l 1) (dL d l 2))) ∨ (ee = 0 ∧ ¬ jBare d l)) ∧ (0 ≤ ee ∧ ee ≤ 1)
      | _ => False, rfl, ?_, ⟨?_, True.intro⟩⟩
  · refine And.intro (zA_63 hS) (zrdR (v := some 72) (zR_63_6 hR) ?_)
    refine And.intro (zA_72 hS) ⟨_, sn_A_at.up (by decide), ?_⟩
    refine ⟨_, _, _, (dL d), l, 0, (x : Int), (0 : Int), rfl, hS, hR, (zRw_72 hR hS), (by first | exact (zRT_fr hLR (fun c j h => rfl)) | (clear hQ; grind [xu])), (by omega), (by omega), ?_⟩
    intro v6o p6hv p6bhr
    refine And.intro (zA_63 hS) (zrdR (v := some 72) (zR_63_6 hR) ?_)
    refine And.intro (zA_72 hS) ⟨_, sn_A_at.up (by decide), ?_⟩
    refine ⟨_, _, _, (dL d), l, 1, (x : Int), (1 : Int), rfl, hS, hR, (zRw_72 hR hS), (by first | exact (zRT_fr hLR (fun c j h => rfl)) | (clear hQ; grind [xu])), (by omega), (by omega), ?_⟩
    intro v16o p16hv p16bhr
    refine And.intro (zA_63 hS) (zrdR (v := some 72) (zR_63_6 hR) ?_)
    refine And.intro (zA_72 hS) ⟨_, sn_A_at.up (by decide), ?_⟩
    refine ⟨_, _, _, (dL d), l, 2, (x : Int), (2 : Int), rfl, hS, hR, (zRw_72 hR hS), (by first | exact (zRT_fr hLR (fun c j h => rfl)) | (clear hQ; grind [xu])), (by omega), (by omega), ?_⟩
    intro v26o p26hv p26bhr
    refine And.intro (zA_63 hS) (zrdR (v := some 76) (zR_63_8 hR) ?_)
    refine ⟨_, sn_C_hasp.up (by decide), ?_⟩
    refine ⟨d, ob, (v6o : Int), (v16o : Int), (v26o : Int), rfl, hS, hR, (by first | exact (zDA_fr hDA (fun c j h => rfl)) | exact (zDA_fr hDA (fun c j h => rfl)) | (clear hQ; grind [xu])), (by first | exact hJG | (clear hQ; grind [xu])), (by omega), ?_⟩
    intro v39o p39hv
    refine And.intro (by omega) ⟨fun h42 => ?_, fun h42 => ?_⟩
    · refine ⟨((101 - (0 : Nat)), 0, 0), [some (zvr (63)), some (zvi (l)), some (zvi (v6o)), some (zvi (v16o)), some (zvi (v26o)), some (zvi ((0 : Int))), some (zvi ((0 : Nat)))], ⟨rfl, (congrArg (fun z => some (zvi z)) (by omega)), rfl, rfl, rfl, rfl, rfl, rfl⟩, 0, 0, v6o, v16o, v26o, rfl, rfl, rfl, rfl, rfl, rfl, rfl, (by omega), ⟨p6hv, p16hv, p26hv⟩, (by omega), ?_, (by omega)⟩
      · have w := p39hv
        rw [p6hv, p16hv, p26hv] at w
        rcases w with w | w
        · first
          | exact Or.inr ⟨rfl, fun q => by obtain ⟨p, p1, p2⟩ := w.2; exact q.2 p p1 p2⟩
          | (exfalso; omega)
        · first
          | exact Or.inl ⟨rfl, w.2, fun u h => absurd h (Nat.not_lt_zero u)⟩
          | (exfalso; omega)
    · refine ⟨((101 - (0 : Nat)), 0, 0), [some (zvr (63)), some (zvi (l)), some (zvi (v6o)), some (zvi (v16o)), some (zvi (v26o)), some (zvi ((1 : Int))), some (zvi ((0 : Nat)))], ⟨rfl, (congrArg (fun z => some (zvi z)) (by omega)), rfl, rfl, rfl, rfl, rfl, rfl⟩, 0, 1, v6o, v16o, v26o, rfl, rfl, rfl, rfl, rfl, rfl, rfl, (by omega), ⟨p6hv, p16hv, p26hv⟩, (by omega), ?_, (by omega)⟩
      · have w := p39hv
        rw [p6hv, p16hv, p26hv] at w
        rcases w with w | w
        · first
          | exact Or.inr ⟨rfl, fun q => by obtain ⟨p, p1, p2⟩ := w.2; exact q.2 p p1 p2⟩
          | (exfalso; omega)
        · first
          | exact Or.inl ⟨rfl, w.2, fun u h => absurd h (Nat.not_lt_zero u)⟩
          | (exfalso; omega)
  · rintro nM lsM stM I1 L1 R1 S1 hz1 ⟨i, ee, s, a, b, rfl, rfl, rfl, rfl, rfl, rfl, rfl, hi, hs, hsr, he, he9⟩
    refine And.intro (zA_63 hS) (zrdR (v := some 68) (zR_63_4 hR) ?_)
    refine And.intro (zA_68 hS) (zrd (v := (dnw d)) w2_ ?_)
    refine And.intro ⟨(by omega), (by omega)⟩ ⟨fun h64 => ?_, fun h64 => ?_⟩
    · refine And.intro (by omega) ?_
      refine hQ _ ?_
      · rcases he with u | u
        · first
          | (exfalso; omega)
          | (obtain rfl : i = dnw d := (by omega)
             exact Or.inl ⟨u.1, u.2.2, u.2.1⟩)
        · exact Or.inr u
    · refine And.intro (by omega) ⟨fun h69 => ?_, fun h69 => ?_⟩
      · refine And.intro (by omega) ?_
        refine hQ _ ?_
        · rcases he with u | u
          · first
            | (exfalso; omega)
            | (obtain rfl : i = dnw d := (by omega)
               exact Or.inl ⟨u.1, u.2.2, u.2.1⟩)
          · exact Or.inr u
      · refine And.intro (zA_63 hS) ⟨_, sn_C_thr.up (by decide), ?_⟩
        refine ⟨d, ob, (i : Int), i, (s : Int), (a : Int), (b : Int), rfl, hS, hR, (by first | exact (zDA_fr hDA (fun c j h => rfl)) | exact (zDA_fr hDA (fun c j h => rfl)) | (clear hQ; grind [xu])), (by first | exact hJG | (clear hQ; grind [xu])), (by omega), (by omega), (by rw [hs.2.1, hs.2.2]; exact ⟨(gl l hx.2).2.1, (gl l hx.2).2.2.1⟩), ?_⟩
        intro v79o p79hv
        refine And.intro (by omega) ⟨fun h82 => ?_, fun h82 => ?_⟩
        · refine ⟨((101 - (i + 1)), 0, 0), zlt6 (by omega), [some (zvr (63)), some (zvi (l)), some (zvi (s)), some (zvi (a)), some (zvi (b)), some (zvi ((0 : Int))), some (zvi ((i + 1)))], ⟨rfl, rfl, rfl, rfl, rfl, rfl, rfl, rfl⟩, (i + 1), 0, s, a, b, rfl, rfl, rfl, rfl, rfl, rfl, rfl, (by omega), hs, (by omega), ?_, (by omega)⟩
          · have w := p79hv
            rw [hs.1, hs.2.1, hs.2.2] at w
            rcases w with w | w
            · first
              | exact Or.inr ⟨rfl, fun q => q.1 i (by omega) w.2⟩
              | (exfalso; omega)
            · first
              | (have h8 := (he.resolve_right (fun u => by have := u.1; omega)).2
                 refine Or.inl ⟨rfl, h8.1, fun u hu => ?_⟩
                 by_cases z : u = i
                 · rw [z]; exact w.2
                 · exact h8.2 u (by omega))
              | (exfalso; omega)
        · refine ⟨((101 - (i + 1)), 0, 0), zlt6 (by omega), [some (zvr (63)), some (zvi (l)), some (zvi (s)), some (zvi (a)), some (zvi (b)), some (zvi ((1 : Int))), some (zvi ((i + 1)))], ⟨rfl, rfl, rfl, rfl, rfl, rfl, rfl, rfl⟩, (i + 1), 1, s, a, b, rfl, rfl, rfl, rfl, rfl, rfl, rfl, (by omega), hs, (by omega), ?_, (by omega)⟩
          · have w := p79hv
            rw [hs.1, hs.2.1, hs.2.2] at w
            rcases w with w | w
            · first
              | exact Or.inr ⟨rfl, fun q => q.1 i (by omega) w.2⟩
              | (exfalso; omega)
            · first
              | (have h8 := (he.resolve_right (fun u => by have := u.1; omega)).2
                 refine Or.inl ⟨rfl, h8.1, fun u hu => ?_⟩
                 by_cases z : u = i
                 · rw [z]; exact w.2
                 · exact h8.2 u (by omega))
              | (exfalso; omega))
