/-! cd2 -/
def T_C_at : ZT := fun args I L R S Q => ∃ (k : Nat) (rm : Nat) (c : Nat) (f : Nat → Nat → Int) (a : Int) (n : Nat) (s : Int) (x : Int) (y : Int), args = [zvr k, zvi a, zvi s, zvi x, zvi y] ∧ (zSh S) ∧ (zRs R) ∧ (zRw rm k R S) ∧ (zRT k rm c f I) ∧ (a = n ∧ n < c) ∧ (r32 s ∧ r32 x ∧ r32 y) ∧ ∀ (v : Int), ((v = 1 ∧ f n 0 = s ∧ f n 1 = x ∧ f n 2 = y) ∨ (v = 0 ∧ ¬ (f n 0 = s ∧ f n 1 = x ∧ f n 2 = y))) → Q (some (zvi (v))) I L R S
theorem sn_C_at : ZSnd 2 3 13 T_C_at := ZSnd.of (zT3_13 1) (by
  rintro args I L R S Q hz ⟨k, rm, c, f, a, n, s, x, y, rfl, hS, hR, hW, hT, ha, hr, hQ⟩
  have h5 := hW.1
  refine And.intro rfl ?_
  refine And.intro (zWX hW) ⟨_, sn_A_at.up (by decide), ?_⟩
  refine ⟨k, _, _, f, n, 0, (a : Int), (0 : Int), rfl, hS, hR, hW, (by first | exact (zRT_fr hT (fun c j h => rfl)) | exact (zRT_fr hT (fun c j h => rfl)) | (clear hQ; grind [xu])), (by omega), (by omega), ?_⟩
  intro v3o p3hv p3bhr
  refine And.intro ⟨(by omega), (by omega)⟩ ⟨fun h7 => ?_, fun h7 => ?_⟩
  · refine And.intro (Or.inl rfl) ?_
    refine hQ _ (by clear hQ; grind [xu])
  · refine And.intro (zWX hW) ⟨_, sn_A_at.up (by decide), ?_⟩
    refine ⟨k, _, _, f, n, 1, (a : Int), (1 : Int), rfl, hS, hR, hW, (by first | exact (zRT_fr hT (fun c j h => rfl)) | exact (zRT_fr hT (fun c j h => rfl)) | (clear hQ; grind [xu])), (by omega), (by omega), ?_⟩
    intro v13o p13hv p13bhr
    refine And.intro ⟨(by omega), (by omega)⟩ ⟨fun h17 => ?_, fun h17 => ?_⟩
    · refine And.intro (Or.inl rfl) ?_
      refine hQ _ (by clear hQ; grind [xu])
    · refine And.intro (zWX hW) ⟨_, sn_A_at.up (by decide), ?_⟩
      refine ⟨k, _, _, f, n, 2, (a : Int), (2 : Int), rfl, hS, hR, hW, (by first | exact (zRT_fr hT (fun c j h => rfl)) | exact (zRT_fr hT (fun c j h => rfl)) | (clear hQ; grind [xu])), (by omega), (by omega), ?_⟩
      intro v23o p23hv p23bhr
      refine And.intro ⟨(by omega), (by omega)⟩ ⟨fun h28 => ?_, fun h28 => ?_⟩
      · refine And.intro (Or.inl rfl) ?_
        refine hQ _ (by clear hQ; grind [xu])
      · refine And.intro (Or.inr rfl) ?_
        refine hQ _ (by clear hQ; grind [xu]))
def T_C_end : ZT := fun args I L R S Q => ∃ (d : JdS) (ob : Nat → Int) (a : Int) (n : Nat) (s : Int) (x : Int) (y : Int), args = [zvr 63, zvi a, zvi s, zvi x, zvi y] ∧ (zSh S) ∧ (zRs R) ∧ (zDA d ob I) ∧ (jGd d) ∧ (a = n ∧ n < dnw d) ∧ (r32 s ∧ r32 x ∧ r32 y) ∧ ∀ (v : Int), ((v = 1 ∧ dW d n 0 = s ∧ dW d n 3 = x ∧ dW d n 4 = y) ∨ (v = 0 ∧ ¬ (dW d n 0 = s ∧ dW d n 3 = x ∧ dW d n 4 = y))) → Q (some (zvi (v))) I L R S
theorem sn_C_end : ZSnd 2 3 7 T_C_end := ZSnd.of (zT3_7 1) (by
  rintro args I L R S Q hz ⟨d, ob, a, n, s, x, y, rfl, hS, hR, hDA, hJG, ha, hr, hQ⟩
  obtain ⟨hSR, hCS, hWR, hJR, hLR, hPR, hTR⟩ := id hDA
  obtain ⟨⟨g1, g2, g3, g4, g5, g6⟩, gs, gw, gj, gl, gp, gt⟩ := id hJG
  obtain ⟨c1_, c2_, c3_, c4_⟩ := id hSR
  obtain ⟨w1_, w2_, w3_, w4_⟩ := id hWR
  obtain ⟨j1_, j2_, j3_, j4_⟩ := id hJR
  obtain ⟨l1_, l2_, l3_, l4_⟩ := id hLR
  obtain ⟨p1_, p2_, p3_, p4_⟩ := id hPR
  obtain ⟨t1_, t2_, t3_, t4_⟩ := id hTR
  refine And.intro rfl ?_
  refine And.intro (zA_63 hS) (zrdR (v := some 68) (zR_63_4 hR) ?_)
  refine And.intro (zA_68 hS) ⟨_, sn_A_at.up (by decide), ?_⟩
  refine ⟨_, _, _, (dW d), n, 0, (a : Int), (0 : Int), rfl, hS, hR, (zRw_68 hR hS), (by first | exact (zRT_fr hWR (fun c j h => rfl)) | (clear hQ; grind [xu])), (by omega), (by omega), ?_⟩
  intro v6o p6hv p6bhr
  refine And.intro ⟨(by omega), (by omega)⟩ ⟨fun h10 => ?_, fun h10 => ?_⟩
  · refine And.intro (Or.inl rfl) ?_
    refine hQ _ (by clear hQ; grind [xu])
  · refine And.intro (zA_63 hS) (zrdR (v := some 68) (zR_63_4 hR) ?_)
    refine And.intro (zA_68 hS) ⟨_, sn_A_at.up (by decide), ?_⟩
    refine ⟨_, _, _, (dW d), n, 3, (a : Int), (3 : Int), rfl, hS, hR, (zRw_68 hR hS), (by first | exact (zRT_fr hWR (fun c j h => rfl)) | (clear hQ; grind [xu])), (by omega), (by omega), ?_⟩
    intro v19o p19hv p19bhr
    refine And.intro ⟨(by omega), (by omega)⟩ ⟨fun h23 => ?_, fun h23 => ?_⟩
    · refine And.intro (Or.inl rfl) ?_
      refine hQ _ (by clear hQ; grind [xu])
    · refine And.intro (zA_63 hS) (zrdR (v := some 68) (zR_63_4 hR) ?_)
      refine And.intro (zA_68 hS) ⟨_, sn_A_at.up (by decide), ?_⟩
      refine ⟨_, _, _, (dW d), n, 4, (a : Int), (4 : Int), rfl, hS, hR, (zRw_68 hR hS), (by first | exact (zRT_fr hWR (fun c j h => rfl)) | (clear hQ; grind [xu])), (by omega), (by omega), ?_⟩
      intro v32o p32hv p32bhr
      refine And.intro ⟨(by omega), (by omega)⟩ ⟨fun h37 => ?_, fun h37 => ?_⟩
      · refine And.intro (Or.inl rfl) ?_
        refine hQ _ (by clear hQ; grind [xu])
      · refine And.intro (Or.inr rfl) ?_
        refine hQ _ (by clear hQ; grind [xu]))
def T_C_thr : ZT := fun args I L R S Q => ∃ (d : JdS) (ob : Nat → Int) (u : Int) (w : Nat) (s : Int) (x : Int) (y : Int), args = [zvr 63, zvi u, zvi s, zvi x, zvi y] ∧ (zSh S) ∧ (zRs R) ∧ (zDA d ob I) ∧ (jGd d) ∧ (u = w ∧ w < dnw d) ∧ (r32 s) ∧ (jFar x ∧ jFar y) ∧ ∀ (v : Int), ((v = 1 ∧ dW d w 0 = s ∧ jTh (dW d) w x y) ∨ (v = 0 ∧ ¬ (dW d w 0 = s ∧ jTh (dW d) w x y))) → Q (some (zvi (v))) I L R S
theorem sn_C_thr : ZSnd 2 3 10 T_C_thr := ZSnd.of (zT3_10 1) (by
  rintro args I L R S Q hz ⟨d, ob, u, w, s, x, y, rfl, hS, hR, hDA, hJG, hu, hr, hxy, hQ⟩
  obtain ⟨hSR, hCS, hWR, hJR, hLR, hPR, hTR⟩ := id hDA
  obtain ⟨⟨g1, g2, g3, g4, g5, g6⟩, gs, gw, gj, gl, gp, gt⟩ := id hJG
  obtain ⟨c1_, c2_, c3_, c4_⟩ := id hSR
  obtain ⟨w1_, w2_, w3_, w4_⟩ := id hWR
  obtain ⟨j1_, j2_, j3_, j4_⟩ := id hJR
  obtain ⟨l1_, l2_, l3_, l4_⟩ := id hLR
  obtain ⟨p1_, p2_, p3_, p4_⟩ := id hPR
  obtain ⟨t1_, t2_, t3_, t4_⟩ := id hTR
  have hx9 : -1000000000 ≤ x ∧ x ≤ 1000000000 := hxy.1
  have hy9 : -1000000000 ≤ y ∧ y ≤ 1000000000 := hxy.2
  refine And.intro rfl ?_
  refine And.intro (zA_63 hS) (zrdR (v := some 68) (zR_63_4 hR) ?_)
  refine And.intro (zA_68 hS) ⟨_, sn_A_at.up (by decide), ?_⟩
  refine ⟨_, _, _, (dW d), w, 0, (u : Int), (0 : Int), rfl, hS, hR, (zRw_68 hR hS), (by first | exact (zRT_fr hWR (fun c j h => rfl)) | (clear hQ; grind [xu])), (by omega), (by omega), ?_⟩
  intro v6o p6hv p6bhr
  refine And.intro ⟨(by omega), (by omega)⟩ ⟨fun h10 => ?_, fun h10 => ?_⟩
  · refine And.intro (zA_63 hS) (zrdR (v := some 68) (zR_63_4 hR) ?_)
    refine And.intro (zA_68 hS) ⟨_, sn_A_at.up (by decide), ?_⟩
    refine ⟨_, _, _, (dW d), w, 1, (u : Int), (1 : Int), rfl, hS, hR, (zRw_68 hR hS), (by first | exact (zRT_fr hWR (fun c j h => rfl)) | (clear hQ; grind [xu])), (by omega), (by omega), ?_⟩
    intro v21o p21hv p21bhr
    have g21 : -1000000000 ≤ v21o ∧ v21o ≤ 1000000000 := (by have q := (gw w hu.2).2 1 (by omega) (by omega); have q2 : -1000000000 ≤ dW d w 1 ∧ dW d w 1 ≤ 1000000000 := q; omega)
    refine And.intro (by omega) ?_
    refine And.intro (zA_63 hS) (zrdR (v := some 68) (zR_63_4 hR) ?_)
    refine And.intro (zA_68 hS) ⟨_, sn_A_at.up (by decide), ?_⟩
    refine ⟨_, _, _, (dW d), w, 2, (u : Int), (2 : Int), rfl, hS, hR, (zRw_68 hR hS), (by first | exact (zRT_fr hWR (fun c j h => rfl)) | (clear hQ; grind [xu])), (by omega), (by omega), ?_⟩
    intro v33o p33hv p33bhr
    have g33 : -1000000000 ≤ v33o ∧ v33o ≤ 1000000000 := (by have q := (gw w hu.2).2 2 (by omega) (by omega); have q2 : -1000000000 ≤ dW d w 2 ∧ dW d w 2 ≤ 1000000000 := q; omega)
    refine And.intro (by omega) ?_
    refine And.intro (zA_63 hS) (zrdR (v := some 68) (zR_63_4 hR) ?_)
    refine And.intro (zA_68 hS) ⟨_, sn_A_at.up (by decide), ?_⟩
    refine ⟨_, _, _, (dW d), w, 3, (u : Int), (3 : Int), rfl, hS, hR, (zRw_68 hR hS), (by first | exact (zRT_fr hWR (fun c j h => rfl)) | (clear hQ; grind [xu])), (by omega), (by omega), ?_⟩
    intro v45o p45hv p45bhr
    have g45 : -1000000000 ≤ v45o ∧ v45o ≤ 1000000000 := (by have q := (gw w hu.2).2 3 (by omega) (by omega); have q2 : -1000000000 ≤ dW d w 3 ∧ dW d w 3 ≤ 1000000000 := q; omega)
    refine And.intro (by omega) ?_
    refine And.intro (zA_63 hS) (zrdR (v := some 68) (zR_63_4 hR) ?_)
    refine And.intro (zA_68 hS) ⟨_, sn_A_at.up (by decide), ?_⟩
    refine ⟨_, _, _, (dW d), w, 4, (u : Int), (4 : Int), rfl, hS, hR, (zRw_68 hR hS), (by first | exact (zRT_fr hWR (fun c j h => rfl)) | (clear hQ; grind [xu])), (by omega), (by omega), ?_⟩
    intro v57o p57hv p57bhr
    have g57 : -1000000000 ≤ v57o ∧ v57o ≤ 1000000000 := (by have q := (gw w hu.2).2 4 (by omega) (by omega); have q2 : -1000000000 ≤ dW d w 4 ∧ dW d w 4 ≤ 1000000000 := q; omega)
    have g57b : -4000000000000000000 ≤ (v45o - v21o) * (y - v33o) ∧ (v45o - v21o) * (y - v33o) ≤ 4000000000000000000 := (jMb (a := v45o - v21o) (b := y - v33o) (A := 2000000000) (B := 2000000000) (by omega) (by omega) (by omega) (by omega))
    have g57bb : -4000000000000000000 ≤ (v57o - v33o) * (x - v21o) ∧ (v57o - v33o) * (x - v21o) ≤ 4000000000000000000 := (jMb (a := v57o - v33o) (b := x - v21o) (A := 2000000000) (B := 2000000000) (by omega) (by omega) (by omega) (by omega))
    refine And.intro (by omega) ?_
    refine And.intro (by omega) ?_
    refine And.intro ⟨(by omega), (by omega)⟩ ?_
    refine ⟨_, _, ⟨zW6i (by omega), zW6i (by omega)⟩, fun z72 c72 => ?_⟩
    refine And.intro c72.2.2 ⟨fun h73 => ?_, fun h73 => ?_⟩
    · refine And.intro (Or.inl rfl) ?_
      refine hQ _ ?_
      · first
        | exact Or.inr ⟨rfl, fun q => by have := q.1; omega⟩
        | (unfold jTh
           rw [← p21hv, ← p33hv, ← p45hv, ← p57hv]
           first
           | exact Or.inl ⟨rfl, by omega, by omega, by omega, by omega⟩
           | exact Or.inr ⟨rfl, fun q => by have q1 := q.2.1; have q2 := q.2.2.1; have q3 := q.2.2.2; omega⟩)
    · refine And.intro (by omega) ?_
      refine And.intro ⟨(by omega), (by omega)⟩ ?_
      refine ⟨_, _, ⟨zW6i (by omega), zW6i (by omega)⟩, fun z85 c85 => ?_⟩
      refine And.intro c85.2.2 ⟨fun h86 => ?_, fun h86 => ?_⟩
      · refine And.intro (Or.inl rfl) ?_
        refine hQ _ ?_
        · first
          | exact Or.inr ⟨rfl, fun q => by have := q.1; omega⟩
          | (unfold jTh
             rw [← p21hv, ← p33hv, ← p45hv, ← p57hv]
             first
             | exact Or.inl ⟨rfl, by omega, by omega, by omega, by omega⟩
             | exact Or.inr ⟨rfl, fun q => by have q1 := q.2.1; have q2 := q.2.2.1; have q3 := q.2.2.2; omega⟩)
      · refine And.intro (by omega) ?_
        refine And.intro ⟨(by omega), (by omega)⟩ ?_
        refine ⟨_, _, ⟨zW6i (by omega), zW6i (by omega)⟩, fun z99 c99 => ?_⟩
        refine And.intro c99.2.2 ⟨fun h100 => ?_, fun h100 => ?_⟩
        · refine And.intro (Or.inl rfl) ?_
          refine hQ _ ?_
          · first
            | exact Or.inr ⟨rfl, fun q => by have := q.1; omega⟩
            | (unfold jTh
               rw [← p21hv, ← p33hv, ← p45hv, ← p57hv]
               first
               | exact Or.inl ⟨rfl, by omega, by omega, by omega, by omega⟩
               | exact Or.inr ⟨rfl, fun q => by have q1 := q.2.1; have q2 := q.2.2.1; have q3 := q.2.2.2; omega⟩)
        · refine And.intro (by omega) ?_
          refine And.intro ⟨(by omega), (by omega)⟩ ?_
          refine ⟨_, _, ⟨zW6i (by omega), zW6i (by omega)⟩, fun z113 c113 => ?_⟩
          refine And.intro c113.2.2 ⟨fun h114 => ?_, fun h114 => ?_⟩
          · refine And.intro (Or.inl rfl) ?_
            refine hQ _ ?_
            · first
              | exact Or.inr ⟨rfl, fun q => by have := q.1; omega⟩
              | (unfold jTh
                 rw [← p21hv, ← p33hv, ← p45hv, ← p57hv]
                 first
                 | exact Or.inl ⟨rfl, by omega, by omega, by omega, by omega⟩
                 | exact Or.inr ⟨rfl, fun q => by have q1 := q.2.1; have q2 := q.2.2.1; have q3 := q.2.2.2; omega⟩)
          · refine And.intro (by omega) ?_
            refine And.intro (by omega) ?_
            refine ⟨_, _, ⟨zW6i (by omega), zW6i (by omega)⟩, fun z140 c140 => ?_⟩
            refine And.intro c140.2.2 ⟨fun h141 => ?_, fun h141 => ?_⟩
            · refine And.intro (Or.inl rfl) ?_
              refine hQ _ ?_
              · first
                | exact Or.inr ⟨rfl, fun q => by have := q.1; omega⟩
                | (unfold jTh
                   rw [← p21hv, ← p33hv, ← p45hv, ← p57hv]
                   first
                   | exact Or.inl ⟨rfl, by omega, by omega, by omega, by omega⟩
                   | exact Or.inr ⟨rfl, fun q => by have q1 := q.2.1; have q2 := q.2.2.1; have q3 := q.2.2.2; omega⟩)
            · refine And.intro (Or.inr rfl) ?_
              refine hQ _ ?_
              · first
                | exact Or.inr ⟨rfl, fun q => by have := q.1; omega⟩
                | (unfold jTh
                   rw [← p21hv, ← p33hv, ← p45hv, ← p57hv]
                   first
                   | exact Or.inl ⟨rfl, by omega, by omega, by omega, by omega⟩
                   | exact Or.inr ⟨rfl, fun q => by have q1 := q.2.1; have q2 := q.2.2.1; have q3 := q.2.2.2; omega⟩)
  · refine And.intro (Or.inl rfl) ?_
    refine hQ _ ?_
    · first
      | exact Or.inr ⟨rfl, fun q => by have := q.1; omega⟩
      | (unfold jTh
         rw [← p21hv, ← p33hv, ← p45hv, ← p57hv]
         first
         | exact Or.inl ⟨rfl, by omega, by omega, by omega, by omega⟩
         | exact Or.inr ⟨rfl, fun q => by have q1 := q.2.1; have q2 := q.2.2.1; have q3 := q.2.2.2; omega⟩))
def T_C_pair : ZT := fun args I L R S Q => ∃ (d : JdS) (ob : Nat → Int) (E : Nat → Nat → Prop) (x : Int) (v : Nat) (y : Int) (w : Nat) (b : Nat), args = [zvr 63, zvi x, zvi y] ∧ (zSh S) ∧ (zRs R) ∧ (zDA d ob I) ∧ (jGd d) ∧ (zJF 78 E I) ∧ (x = v ∧ v < dnw d) ∧ (y = w ∧ w < dnw d) ∧ (dW d v 0 = b ∧ b < dns d ∧ dbs d b = b) ∧ ∀ (I' : ZI), (zSc d (1920 + 16 * v) (1920 + 16 * w) (jNc (dbs d) b (dns d)) E I') → (∀ c j : Nat, ¬ c = 78 → I' c j = I c j) → Q none I' L R S
theorem sn_C_pair : ZSnd 4 3 24 T_C_pair := ZSnd.of (zT3_24 3) (by
  rintro args I L R S Q hz ⟨d, ob, E, x, v, y, w, b, rfl, hS, hR, hDA, hJG, hJF, hx, hy, hb, hQ⟩
  obtain ⟨hSR, hCS, hWR, hJR, hLR, hPR, hTR⟩ := id hDA
  obtain ⟨⟨g1, g2, g3, g4, g5, g6⟩, gs, gw, gj, gl, gp, gt⟩ := id hJG
  obtain ⟨c1_, c2_, c3_, c4_⟩ := id hSR
  obtain ⟨w1_, w2_, w3_, w4_⟩ := id hWR
  obtain ⟨j1_, j2_, j3_, j4_⟩ := id hJR
  obtain ⟨l1_, l2_, l3_, l4_⟩ := id hLR
  obtain ⟨p1_, p2_, p3_, p4_⟩ := id hPR
  obtain ⟨t1_, t2_, t3_, t4_⟩ := id hTR
  refine And.intro rfl ?_
  refine And.intro (zA_63 hS) (zrdR (v := some 68) (zR_63_4 hR) ?_)
  refine And.intro (zA_68 hS) ⟨_, sn_A_at.up (by decide), ?_⟩
  refine ⟨_, _, _, (dW d), v, 0, (x : Int), (0 : Int), rfl, hS, hR, (zRw_68 hR hS), (by first | exact (zRT_fr hWR (fun c j h => rfl)) | (clear hQ; grind [xu])), (by omega), (by omega), ?_⟩
  intro v23o p23hv p23bhr
  refine And.intro (zA_63 hS) ⟨_, sn_C_cop.up (by decide), ?_⟩
  refine ⟨d, ob, E, ((1920 + (x * 16)) : Int), (1920 + 16 * v), ((1920 + (y * 16)) : Int), (1920 + 16 * w), (v23o : Int), b, rfl, hS, hR, (by first | exact (zDA_fr hDA (fun c j h => rfl)) | exact (zDA_fr hDA (fun c j h => rfl)) | (clear hQ; grind [xu])), (by first | exact hJG | (clear hQ; grind [xu])), hJF, (by omega), (by omega), ⟨p23hv.trans hb.1, hb.2⟩, ?_⟩
  intro I26o p26hS2 p26bfr
  refine hQ _ (by clear hQ; grind [xu]) (fun c j h0 => ((p26bfr c j (by omega)).trans rfl)))
def T_C_wires : ZT := fun args I L R S Q => ∃ (d : JdS) (ob : Nat → Int) (E : Nat → Nat → Prop), args = [zvr 63] ∧ (zSh S) ∧ (zRs R) ∧ (zDA d ob I) ∧ (jGd d) ∧ (zJF 78 E I) ∧ ∀ (I' : ZI), (zCs d E (dWw d (dnw d) 0) I') → (∀ c j : Nat, ¬ c = 78 → I' c j = I c j) → Q none I' L R S
theorem sn_C_wires : ZSnd 5 3 25 T_C_wires := ZSnd.loops (zT3_25 4) (by
  rintro args I L R S Q hz ⟨d, ob, E, rfl, hS, hR, hDA, hJG, hJF, hQ⟩
  obtain ⟨hSR, hCS, hWR, hJR, hLR, hPR, hTR⟩ := id hDA
  obtain ⟨⟨g1, g2, g3, g4, g5, g6⟩, gs, gw, gj, gl, gp, gt⟩ := id hJG
  obtain ⟨c1_, c2_, c3_, c4_⟩ := id hSR
  obtain ⟨w1_, w2_, w3_, w4_⟩ := id hWR
  obtain ⟨j1_, j2_, j3_, j4_⟩ := id hJR
  obtain ⟨l1_, l2_, l3_, l4_⟩ := id hLR
  obtain ⟨p1_, p2_, p3_, p4_⟩ := id hPR
  obtain ⟨t1_, t2_, t3_, t4_⟩ := id hTR
  refine ⟨[2, 17], fun nM tM lsM stM I1 L1 R1 S1 => match tM with
      | 2 => ∃ (i : Nat), nM = ((101 - i), 200, 0) ∧ lsM = [some (zvr (63)), some (zvi (i)), none, none] ∧ stM = [] ∧ L1 = L ∧ R1 = R ∧ S1 = S ∧ (i ≤ dnw d) ∧ (zCs d E (dWw d i 0) I1) ∧ (∀ c j : Nat, ¬ c = 78 → I1 c j = I c j)
      | 17 => ∃ (i : Nat) (j : Nat), nM = ((101 - i), (101 - j), 0) ∧ lsM = [some (zvr (63)), some (zvi (i)), some (zvi (j)), none] ∧ stM = [] ∧ L1 = L ∧ R1 = R ∧ S1 = S ∧ (i < dnw d ∧ i < j ∧ j ≤ dnw d) ∧ (zCs d E (dWw d i j) I1) ∧ (∀ c j : Nat, ¬ c = 78 → I1 c j = I c j)
      | _ => False, rfl, ?_, ⟨?_, ?_, True.intro⟩⟩
  · refine ⟨((101 - (0 : Nat)), 200, 0), [some (zvr (63)), some (zvi ((0 : Nat))), none, none], ⟨rfl, rfl, rfl⟩, 0, rfl, rfl, rfl, rfl, rfl, rfl, (by omega), (zCs_0 hJF (fun x y q => by obtain ⟨v, w, t, h1, h2, h3, -⟩ := q; omega)), (fun c j h0 => rfl)⟩
  · rintro nM lsM stM I1 L1 R1 S1 hz1 ⟨i, rfl, rfl, rfl, rfl, rfl, rfl, hi, hQ1, fr⟩
    refine And.intro (zA_63 hS) (zrdR (v := some 68) (zR_63_4 hR) ?_)
    refine And.intro (zA_68 hS) (zrd (v := (dnw d)) ((fr 68 2 (by omega)).trans w2_) ?_)
    refine And.intro ⟨(by omega), (by omega)⟩ ⟨fun h10 => ?_, fun h10 => ?_⟩
    · refine hQ _ (by obtain rfl : i = dnw d := (by omega); exact hQ1) (fun c j h0 => ((fr c j (by omega)).trans rfl))
    · refine ⟨((101 - i), (101 - (i + 1)), 0), zlt6 (by omega), [some (zvr (63)), some (zvi (i)), some (zvi ((i + 1))), none], ⟨rfl, rfl, rfl, rfl⟩, i, (i + 1), rfl, rfl, rfl, rfl, rfl, rfl, (by omega), (zCs_n hQ1 (fun x y q => jCl_e (dWw_0 q))), (fun c j h0 => ((fr c j (by omega)).trans rfl))⟩
  · rintro nM lsM stM I1 L1 R1 S1 hz1 ⟨i, j, rfl, rfl, rfl, rfl, rfl, rfl, hi, hQ1, fr⟩
    obtain ⟨F, hJ1, hf2, hf3, hf4⟩ := id hQ1
    refine And.intro (zA_63 hS) (zrdR (v := some 68) (zR_63_4 hR) ?_)
    refine And.intro (zA_68 hS) (zrd (v := (dnw d)) ((fr 68 2 (by omega)).trans w2_) ?_)
    refine And.intro ⟨(by omega), (by omega)⟩ ⟨fun h25 => ?_, fun h25 => ?_⟩
    · refine ⟨((101 - (i + 1)), 200, 0), zlt6 (by omega), [some (zvr (63)), some (zvi ((i + 1))), none, none], ⟨rfl, rfl, rfl⟩, (i + 1), rfl, rfl, rfl, rfl, rfl, rfl, (by omega), (zCs_n hQ1 (fun x y q => jCl_e (by obtain rfl : j = dnw d := (by omega); exact dWw_i q))), (fun c j h0 => ((fr c j (by omega)).trans rfl))⟩
    · refine And.intro (zA_63 hS) (zrdR (v := some 68) (zR_63_4 hR) ?_)
      refine And.intro (zA_63 hS) (zrdR (v := some 68) (zR_63_4 hR) ?_)
      refine And.intro (zA_68 hS) ⟨_, sn_A_at.up (by decide), ?_⟩
      refine ⟨_, _, _, (dW d), i, 0, (i : Int), (0 : Int), rfl, hS, hR, (zRw_68 hR hS), (by first | exact (zRT_fr hWR (fun c j h => ((fr c j (by omega)).trans rfl))) | (clear hQ; grind [xu])), (by omega), (by omega), ?_⟩
      intro v39o p39hv p39bhr
      refine And.intro (zA_63 hS) (zrdR (v := some 68) (zR_63_4 hR) ?_)
      refine And.intro (zA_68 hS) ⟨_, sn_A_at.up (by decide), ?_⟩
      refine ⟨_, _, _, (dW d), i, 1, (i : Int), (1 : Int), rfl, hS, hR, (zRw_68 hR hS), (by first | exact (zRT_fr hWR (fun c j h => ((fr c j (by omega)).trans rfl))) | (clear hQ; grind [xu])), (by omega), (by omega), ?_⟩
      intro v48o p48hv p48bhr
      refine And.intro (zA_63 hS) (zrdR (v := some 68) (zR_63_4 hR) ?_)
      refine And.intro (zA_68 hS) ⟨_, sn_A_at.up (by decide), ?_⟩
      refine ⟨_, _, _, (dW d), i, 2, (i : Int), (2 : Int), rfl, hS, hR, (zRw_68 hR hS), (by first | exact (zRT_fr hWR (fun c j h => ((fr c j (by omega)).trans rfl))) | (clear hQ; grind [xu])), (by omega), (by omega), ?_⟩
      intro v57o p57hv p57bhr
      refine ⟨_, sn_C_at.up (by decide), ?_⟩
      refine ⟨68, _, _, (dW d), (j : Int), j, (v39o : Int), (v48o : Int), (v57o : Int), rfl, hS, hR, (zRw_68 hR hS), (by first | exact (zRT_fr hWR (fun c j h => ((fr c j (by omega)).trans rfl))) | (clear hQ; grind [xu])), (by omega), (by omega), ?_⟩
      intro v60o p60hv
      refine And.intro (by omega) ⟨fun h63 => ?_, fun h63 => ?_⟩
      · refine And.intro (zRb rfl) (zbf rfl ?_)
        refine And.intro (zA_63 hS) ⟨_, sn_C_pair.up (by decide), ?_⟩
        refine ⟨d, ob, F, (i : Int), i, (j : Int), j, (dW d i 0).toNat, rfl, hS, hR, (zDA_fr hDA (fun c j h => fr c j (by omega))), (by first | exact hJG | (clear hQ; grind [xu])), hJ1, (by omega), (by omega), (by have := (gw i (by omega)).1; exact ⟨by omega, by omega, by omega⟩), ?_⟩
        intro I187o p187hS2 p187bfr
        refine ⟨((101 - i), (101 - (j + 1)), 0), zlt6 (by omega), [some (zvr (63)), some (zvi (i)), some (zvi ((j + 1))), none], ⟨rfl, rfl, rfl, rfl⟩, i, (j + 1), rfl, rfl, rfl, rfl, rfl, rfl, (by omega), ?_, (fun c j h0 => ((p187bfr c j (by omega)).trans ((fr c j (by omega)).trans rfl)))⟩
        · first
          | (have hje : jEn (dW d) j i ∧ dW d j 0 = dW d i 0 := by
               rw [jEn_if]
               first
               | (rcases p60hv with w | w <;> omega)
               | (rcases p98hv with w | w <;> omega)
               | (rcases p133hv with w | w <;> omega)
               | (rcases p168hv with w | w <;> omega)
             refine zCs_a p187hS2 hf2 hf3 hf4 (fun c hc => ?_) (fun x y q => dWw_a (by have := (gw i (by omega)).1; omega) q)
             obtain ⟨t, h1, h2, h3⟩ := cOn hc
             rw [← h3]
             exact cWw h1 (by omega) (by omega) (by have := (gw i (by omega)).1; omega) (by have := (gw i (by omega)).1; omega) (Or.inl (jEn_s hje.1)))
          | (refine zCs_n hQ1 (fun x y q => jCl_e (dWw_n (fun k => ?_) q))
             have k1 := k.1
             have k2 := jEn_if.1 k.2
             rcases p60hv with w | w
             · omega
             · rcases p98hv with w2 | w2
               · omega
               · rcases p133hv with w3 | w3
                 · omega
                 · rcases p168hv with w4 | w4 <;> omega)
      · refine And.intro (zA_63 hS) (zrdR (v := some 68) (zR_63_4 hR) ?_)
        refine And.intro (zA_63 hS) (zrdR (v := some 68) (zR_63_4 hR) ?_)
        refine And.intro (zA_68 hS) ⟨_, sn_A_at.up (by decide), ?_⟩
        refine ⟨_, _, _, (dW d), i, 0, (i : Int), (0 : Int), rfl, hS, hR, (zRw_68 hR hS), (by first | exact (zRT_fr hWR (fun c j h => ((fr c j (by omega)).trans rfl))) | (clear hQ; grind [xu])), (by omega), (by omega), ?_⟩
        intro v77o p77hv p77bhr
        refine And.intro (zA_63 hS) (zrdR (v := some 68) (zR_63_4 hR) ?_)
        refine And.intro (zA_68 hS) ⟨_, sn_A_at.up (by decide), ?_⟩
        refine ⟨_, _, _, (dW d), i, 3, (i : Int), (3 : Int), rfl, hS, hR, (zRw_68 hR hS), (by first | exact (zRT_fr hWR (fun c j h => ((fr c j (by omega)).trans rfl))) | (clear hQ; grind [xu])), (by omega), (by omega), ?_⟩
        intro v86o p86hv p86bhr
        refine And.intro (zA_63 hS) (zrdR (v := some 68) (zR_63_4 hR) ?_)
        refine And.intro (zA_68 hS) ⟨_, sn_A_at.up (by decide), ?_⟩
        refine ⟨_, _, _, (dW d), i, 4, (i : Int), (4 : Int), rfl, hS, hR, (zRw_68 hR hS), (by first | exact (zRT_fr hWR (fun c j h => ((fr c j (by omega)).trans rfl))) | (clear hQ; grind [xu])), (by omega), (by omega), ?_⟩
        intro v95o p95hv p95bhr
        refine ⟨_, sn_C_at.up (by decide), ?_⟩
        refine ⟨68, _, _, (dW d), (j : Int), j, (v77o : Int), (v86o : Int), (v95o : Int), rfl, hS, hR, (zRw_68 hR hS), (by first | exact (zRT_fr hWR (fun c j h => ((fr c j (by omega)).trans rfl))) | (clear hQ; grind [xu])), (by omega), (by omega), ?_⟩
        intro v98o p98hv
        refine And.intro (by omega) ⟨fun h101 => ?_, fun h101 => ?_⟩
        · refine And.intro (zRb rfl) (zbf rfl ?_)
          refine And.intro (zA_63 hS) ⟨_, sn_C_pair.up (by decide), ?_⟩
          refine ⟨d, ob, F, (i : Int), i, (j : Int), j, (dW d i 0).toNat, rfl, hS, hR, (zDA_fr hDA (fun c j h => fr c j (by omega))), (by first | exact hJG | (clear hQ; grind [xu])), hJ1, (by omega), (by omega), (by have := (gw i (by omega)).1; exact ⟨by omega, by omega, by omega⟩), ?_⟩
          intro I187o p187hS2 p187bfr
          refine ⟨((101 - i), (101 - (j + 1)), 0), zlt6 (by omega), [some (zvr (63)), some (zvi (i)), some (zvi ((j + 1))), none], ⟨rfl, rfl, rfl, rfl⟩, i, (j + 1), rfl, rfl, rfl, rfl, rfl, rfl, (by omega), ?_, (fun c j h0 => ((p187bfr c j (by omega)).trans ((fr c j (by omega)).trans rfl)))⟩
          · first
            | (have hje : jEn (dW d) j i ∧ dW d j 0 = dW d i 0 := by
                 rw [jEn_if]
                 first
                 | (rcases p60hv with w | w <;> omega)
                 | (rcases p98hv with w | w <;> omega)
                 | (rcases p133hv with w | w <;> omega)
                 | (rcases p168hv with w | w <;> omega)
               refine zCs_a p187hS2 hf2 hf3 hf4 (fun c hc => ?_) (fun x y q => dWw_a (by have := (gw i (by omega)).1; omega) q)
               obtain ⟨t, h1, h2, h3⟩ := cOn hc
               rw [← h3]
               exact cWw h1 (by omega) (by omega) (by have := (gw i (by omega)).1; omega) (by have := (gw i (by omega)).1; omega) (Or.inl (jEn_s hje.1)))
            | (refine zCs_n hQ1 (fun x y q => jCl_e (dWw_n (fun k => ?_) q))
               have k1 := k.1
               have k2 := jEn_if.1 k.2
               rcases p60hv with w | w
               · omega
               · rcases p98hv with w2 | w2
                 · omega
                 · rcases p133hv with w3 | w3
                   · omega
                   · rcases p168hv with w4 | w4 <;> omega)
        · refine And.intro (zA_63 hS) (zrdR (v := some 68) (zR_63_4 hR) ?_)
          refine And.intro (zA_68 hS) ⟨_, sn_A_at.up (by decide), ?_⟩
          refine ⟨_, _, _, (dW d), i, 0, (i : Int), (0 : Int), rfl, hS, hR, (zRw_68 hR hS), (by first | exact (zRT_fr hWR (fun c j h => ((fr c j (by omega)).trans rfl))) | (clear hQ; grind [xu])), (by omega), (by omega), ?_⟩
          intro v112o p112hv p112bhr
          refine And.intro (zA_63 hS) (zrdR (v := some 68) (zR_63_4 hR) ?_)
          refine And.intro (zA_68 hS) ⟨_, sn_A_at.up (by decide), ?_⟩
          refine ⟨_, _, _, (dW d), i, 1, (i : Int), (1 : Int), rfl, hS, hR, (zRw_68 hR hS), (by first | exact (zRT_fr hWR (fun c j h => ((fr c j (by omega)).trans rfl))) | (clear hQ; grind [xu])), (by omega), (by omega), ?_⟩
          intro v121o p121hv p121bhr
          refine And.intro (zA_63 hS) (zrdR (v := some 68) (zR_63_4 hR) ?_)
          refine And.intro (zA_68 hS) ⟨_, sn_A_at.up (by decide), ?_⟩
          refine ⟨_, _, _, (dW d), i, 2, (i : Int), (2 : Int), rfl, hS, hR, (zRw_68 hR hS), (by first | exact (zRT_fr hWR (fun c j h => ((fr c j (by omega)).trans rfl))) | (clear hQ; grind [xu])), (by omega), (by omega), ?_⟩
          intro v130o p130hv p130bhr
          refine And.intro (zA_63 hS) ⟨_, sn_C_end.up (by decide), ?_⟩
          refine ⟨d, ob, (j : Int), j, (v112o : Int), (v121o : Int), (v130o : Int), rfl, hS, hR, (zDA_fr hDA (fun c j h => fr c j (by omega))), (by first | exact hJG | (clear hQ; grind [xu])), (by omega), (by omega), ?_⟩
          intro v133o p133hv
          refine And.intro (by omega) ⟨fun h136 => ?_, fun h136 => ?_⟩
          · refine And.intro (zRb rfl) (zbf rfl ?_)
            refine And.intro (zA_63 hS) ⟨_, sn_C_pair.up (by decide), ?_⟩
            refine ⟨d, ob, F, (i : Int), i, (j : Int), j, (dW d i 0).toNat, rfl, hS, hR, (zDA_fr hDA (fun c j h => fr c j (by omega))), (by first | exact hJG | (clear hQ; grind [xu])), hJ1, (by omega), (by omega), (by have := (gw i (by omega)).1; exact ⟨by omega, by omega, by omega⟩), ?_⟩
            intro I187o p187hS2 p187bfr
            refine ⟨((101 - i), (101 - (j + 1)), 0), zlt6 (by omega), [some (zvr (63)), some (zvi (i)), some (zvi ((j + 1))), none], ⟨rfl, rfl, rfl, rfl⟩, i, (j + 1), rfl, rfl, rfl, rfl, rfl, rfl, (by omega), ?_, (fun c j h0 => ((p187bfr c j (by omega)).trans ((fr c j (by omega)).trans rfl)))⟩
            · first
              | (have hje : jEn (dW d) j i ∧ dW d j 0 = dW d i 0 := by
                   rw [jEn_if]
                   first
                   | (rcases p60hv with w | w <;> omega)
                   | (rcases p98hv with w | w <;> omega)
                   | (rcases p133hv with w | w <;> omega)
                   | (rcases p168hv with w | w <;> omega)
                 refine zCs_a p187hS2 hf2 hf3 hf4 (fun c hc => ?_) (fun x y q => dWw_a (by have := (gw i (by omega)).1; omega) q)
                 obtain ⟨t, h1, h2, h3⟩ := cOn hc
                 rw [← h3]
                 exact cWw h1 (by omega) (by omega) (by have := (gw i (by omega)).1; omega) (by have := (gw i (by omega)).1; omega) (Or.inl (jEn_s hje.1)))
              | (refine zCs_n hQ1 (fun x y q => jCl_e (dWw_n (fun k => ?_) q))
                 have k1 := k.1
                 have k2 := jEn_if.1 k.2
                 rcases p60hv with w | w
                 · omega
                 · rcases p98hv with w2 | w2
                   · omega
                   · rcases p133hv with w3 | w3
                     · omega
                     · rcases p168hv with w4 | w4 <;> omega)
          · refine And.intro (zA_63 hS) (zrdR (v := some 68) (zR_63_4 hR) ?_)
            refine And.intro (zA_68 hS) ⟨_, sn_A_at.up (by decide), ?_⟩
            refine ⟨_, _, _, (dW d), i, 0, (i : Int), (0 : Int), rfl, hS, hR, (zRw_68 hR hS), (by first | exact (zRT_fr hWR (fun c j h => ((fr c j (by omega)).trans rfl))) | (clear hQ; grind [xu])), (by omega), (by omega), ?_⟩
            intro v147o p147hv p147bhr
            refine And.intro (zA_63 hS) (zrdR (v := some 68) (zR_63_4 hR) ?_)
            refine And.intro (zA_68 hS) ⟨_, sn_A_at.up (by decide), ?_⟩
            refine ⟨_, _, _, (dW d), i, 3, (i : Int), (3 : Int), rfl, hS, hR, (zRw_68 hR hS), (by first | exact (zRT_fr hWR (fun c j h => ((fr c j (by omega)).trans rfl))) | (clear hQ; grind [xu])), (by omega), (by omega), ?_⟩
            intro v156o p156hv p156bhr
            refine And.intro (zA_63 hS) (zrdR (v := some 68) (zR_63_4 hR) ?_)
            refine And.intro (zA_68 hS) ⟨_, sn_A_at.up (by decide), ?_⟩
            refine ⟨_, _, _, (dW d), i, 4, (i : Int), (4 : Int), rfl, hS, hR, (zRw_68 hR hS), (by first | exact (zRT_fr hWR (fun c j h => ((fr c j (by omega)).trans rfl))) | (clear hQ; grind [xu])), (by omega), (by omega), ?_⟩
            intro v165o p165hv p165bhr
            refine And.intro (zA_63 hS) ⟨_, sn_C_end.up (by decide), ?_⟩
            refine ⟨d, ob, (j : Int), j, (v147o : Int), (v156o : Int), (v165o : Int), rfl, hS, hR, (zDA_fr hDA (fun c j h => fr c j (by omega))), (by first | exact hJG | (clear hQ; grind [xu])), (by omega), (by omega), ?_⟩
            intro v168o p168hv
            refine And.intro (by omega) ⟨fun h171 => ?_, fun h171 => ?_⟩
            · refine And.intro (zRb rfl) (zbt rfl ?_)
              refine ⟨((101 - i), (101 - (j + 1)), 0), zlt6 (by omega), [some (zvr (63)), some (zvi (i)), some (zvi ((j + 1))), none], ⟨rfl, rfl, rfl, rfl⟩, i, (j + 1), rfl, rfl, rfl, rfl, rfl, rfl, (by omega), ?_, (fun c j h0 => ((fr c j (by omega)).trans rfl))⟩
              · first
                | (have hje : jEn (dW d) j i ∧ dW d j 0 = dW d i 0 := by
                     rw [jEn_if]
                     first
                     | (rcases p60hv with w | w <;> omega)
                     | (rcases p98hv with w | w <;> omega)
                     | (rcases p133hv with w | w <;> omega)
                     | (rcases p168hv with w | w <;> omega)
                   refine zCs_a p187hS2 hf2 hf3 hf4 (fun c hc => ?_) (fun x y q => dWw_a (by have := (gw i (by omega)).1; omega) q)
                   obtain ⟨t, h1, h2, h3⟩ := cOn hc
                   rw [← h3]
                   exact cWw h1 (by omega) (by omega) (by have := (gw i (by omega)).1; omega) (by have := (gw i (by omega)).1; omega) (Or.inl (jEn_s hje.1)))
                | (refine zCs_n hQ1 (fun x y q => jCl_e (dWw_n (fun k => ?_) q))
                   have k1 := k.1
                   have k2 := jEn_if.1 k.2
                   rcases p60hv with w | w
                   · omega
                   · rcases p98hv with w2 | w2
                     · omega
                     · rcases p133hv with w3 | w3
                       · omega
                       · rcases p168hv with w4 | w4 <;> omega)
            · refine And.intro (zRb rfl) (zbf rfl ?_)
              refine And.intro (zA_63 hS) ⟨_, sn_C_pair.up (by decide), ?_⟩
              refine ⟨d, ob, F, (i : Int), i, (j : Int), j, (dW d i 0).toNat, rfl, hS, hR, (zDA_fr hDA (fun c j h => fr c j (by omega))), (by first | exact hJG | (clear hQ; grind [xu])), hJ1, (by omega), (by omega), (by have := (gw i (by omega)).1; exact ⟨by omega, by omega, by omega⟩), ?_⟩
              intro I187o p187hS2 p187bfr
              refine ⟨((101 - i), (101 - (j + 1)), 0), zlt6 (by omega), [some (zvr (63)), some (zvi (i)), some (zvi ((j + 1))), none], ⟨rfl, rfl, rfl, rfl⟩, i, (j + 1), rfl, rfl, rfl, rfl, rfl, rfl, (by omega), ?_, (fun c j h0 => ((p187bfr c j (by omega)).trans ((fr c j (by omega)).trans rfl)))⟩
              · first
                | (have hje : jEn (dW d) j i ∧ dW d j 0 = dW d i 0 := by
                     rw [jEn_if]
                     first
                     | (rcases p60hv with w | w <;> omega)
                     | (rcases p98hv with w | w <;> omega)
                     | (rcases p133hv with w | w <;> omega)
                     | (rcases p168hv with w | w <;> omega)
                   refine zCs_a p187hS2 hf2 hf3 hf4 (fun c hc => ?_) (fun x y q => dWw_a (by have := (gw i (by omega)).1; omega) q)
                   obtain ⟨t, h1, h2, h3⟩ := cOn hc
                   rw [← h3]
                   exact cWw h1 (by omega) (by omega) (by have := (gw i (by omega)).1; omega) (by have := (gw i (by omega)).1; omega) (Or.inl (jEn_s hje.1)))
                | (refine zCs_n hQ1 (fun x y q => jCl_e (dWw_n (fun k => ?_) q))
                   have k1 := k.1
                   have k2 := jEn_if.1 k.2
                   rcases p60hv with w | w
                   · omega
                   · rcases p98hv with w2 | w2
                     · omega
                     · rcases p133hv with w3 | w3
                       · omega
                       · rcases p168hv with w4 | w4 <;> omega))
def T_C_junc : ZT := fun args I L R S Q => ∃ (d : JdS) (ob : Nat → Int) (E : Nat → Nat → Prop) (z : Int) (n : Nat), args = [zvr 63, zvi z] ∧ (zSh S) ∧ (zRs R) ∧ (zDA d ob I) ∧ (jGd d) ∧ (zJF 78 E I) ∧ (z = n ∧ n < dnj d) ∧ ∀ (I' : ZI), (zCs d E (dJo d n) I') → (∀ c j : Nat, ¬ c = 78 → I' c j = I c j) → Q none I' L R S
theorem sn_C_junc : ZSnd 5 3 18 T_C_junc := ZSnd.loops (zT3_18 4) (by
  rintro args I L R S Q hz ⟨d, ob, E, z, n, rfl, hS, hR, hDA, hJG, hJF, hn, hQ⟩
  obtain ⟨hSR, hCS, hWR, hJR, hLR, hPR, hTR⟩ := id hDA
  obtain ⟨⟨g1, g2, g3, g4, g5, g6⟩, gs, gw, gj, gl, gp, gt⟩ := id hJG
  obtain ⟨c1_, c2_, c3_, c4_⟩ := id hSR
  obtain ⟨w1_, w2_, w3_, w4_⟩ := id hWR
  obtain ⟨j1_, j2_, j3_, j4_⟩ := id hJR
  obtain ⟨l1_, l2_, l3_, l4_⟩ := id hLR
  obtain ⟨p1_, p2_, p3_, p4_⟩ := id hPR
  obtain ⟨t1_, t2_, t3_, t4_⟩ := id hTR
  refine ⟨[4], fun nM tM lsM stM I1 L1 R1 S1 => match tM with
      | 4 => ∃ (i : Nat) (f : Int), nM = ((101 - i), 0, 0) ∧ lsM = [some (zvr (63)), some (zvi (n)), some (zvi (f)), some (zvi (i))] ∧ stM = [] ∧ L1 = L ∧ R1 = R ∧ S1 = S ∧ (i ≤ dnw d ∧ -1 ≤ f ∧ f < dnw d) ∧ ((f = -1 ∧ ∀ w, w < i → ¬ cTj d n w) ∨ (0 ≤ f ∧ cTj d n f.toNat)) ∧ (zCs d E (dJf d n f i) I1) ∧ (∀ c j : Nat, ¬ c = 78 → I1 c j = I c j)
      | _ => False, rfl, ?_, ⟨?_, True.intro⟩⟩
  · refine ⟨((101 - (0 : Nat)), 0, 0), [some (zvr (63)), some (zvi (n)), some (zvi (((-1) : Int))), some (zvi ((0 : Nat)))], ⟨rfl, (congrArg (fun z => some (zvi z)) (by omega)), (congrArg (fun z => some (zvi z)) (by omega)), rfl, rfl⟩, 0, (-1), rfl, rfl, rfl, rfl, rfl, rfl, (by omega), (Or.inl ⟨rfl, fun w h => absurd h (Nat.not_lt_zero w)⟩), (zCs_0 hJF (fun x y q => by obtain ⟨w, t, h1, -⟩ := q; exact absurd h1 (Nat.not_lt_zero w))), (fun c j h0 => rfl)⟩
  · rintro nM lsM stM I1 L1 R1 S1 hz1 ⟨i, f, rfl, rfl, rfl, rfl, rfl, rfl, hi, hf, hQ1, fr⟩
    obtain ⟨F, hJ1, hf2, hf3, hf4⟩ := id hQ1
    refine And.intro (zA_63 hS) (zrdR (v := some 68) (zR_63_4 hR) ?_)
    refine And.intro (zA_68 hS) (zrd (v := (dnw d)) ((fr 68 2 (by omega)).trans w2_) ?_)
    refine And.intro ⟨(by omega), (by omega)⟩ ⟨fun h12 => ?_, fun h12 => ?_⟩
    · refine hQ _ (by obtain rfl : i = dnw d := (by omega); exact zCs_n hQ1 (fun x y q => dJf_end (by rcases hf with w | w; exact Or.inl w; exact Or.inr w.1) q)) (fun c j h0 => ((fr c j (by omega)).trans rfl))
    · refine And.intro (zA_63 hS) (zrdR (v := some 70) (zR_63_5 hR) ?_)
      refine And.intro (zA_70 hS) ⟨_, sn_A_at.up (by decide), ?_⟩
      refine ⟨_, _, _, (dJ d), n, 0, (n : Int), (0 : Int), rfl, hS, hR, (zRw_70 hR hS), (by first | exact (zRT_fr hJR (fun c j h => ((fr c j (by omega)).trans rfl))) | (clear hQ; grind [xu])), (by omega), (by omega), ?_⟩
      intro v23o p23hv p23bhr
      refine And.intro (zA_63 hS) (zrdR (v := some 70) (zR_63_5 hR) ?_)
      refine And.intro (zA_70 hS) ⟨_, sn_A_at.up (by decide), ?_⟩
      refine ⟨_, _, _, (dJ d), n, 1, (n : Int), (1 : Int), rfl, hS, hR, (zRw_70 hR hS), (by first | exact (zRT_fr hJR (fun c j h => ((fr c j (by omega)).trans rfl))) | (clear hQ; grind [xu])), (by omega), (by omega), ?_⟩
      intro v32o p32hv p32bhr
      refine And.intro (zA_63 hS) (zrdR (v := some 70) (zR_63_5 hR) ?_)
      refine And.intro (zA_70 hS) ⟨_, sn_A_at.up (by decide), ?_⟩
      refine ⟨_, _, _, (dJ d), n, 2, (n : Int), (2 : Int), rfl, hS, hR, (zRw_70 hR hS), (by first | exact (zRT_fr hJR (fun c j h => ((fr c j (by omega)).trans rfl))) | (clear hQ; grind [xu])), (by omega), (by omega), ?_⟩
      intro v41o p41hv p41bhr
      refine And.intro (zA_63 hS) ⟨_, sn_C_thr.up (by decide), ?_⟩
      refine ⟨d, ob, (i : Int), i, (v23o : Int), (v32o : Int), (v41o : Int), rfl, hS, hR, (zDA_fr hDA (fun c j h => fr c j (by omega))), (by first | exact hJG | (clear hQ; grind [xu])), (by omega), (by omega), (by rw [p32hv, p41hv]; exact (gj n hn.2).2), ?_⟩
      intro v44o p44hv
      have g44 : v44o = 1 → cTj d n i := by
        intro q
        have w := (p44hv.resolve_right (fun w => by have := w.1; omega)).2
        rw [p32hv, p41hv] at w
        exact ⟨w.1.trans p23hv, w.2⟩
      have g44b : v44o = 0 → ¬ cTj d n i := by
        intro q w
        have w2 := (p44hv.resolve_left (fun w => by have := w.1; omega)).2
        rw [p32hv, p41hv] at w2
        exact w2 ⟨w.1.trans p23hv.symm, w.2⟩
      have g44bb : v44o = 0 ∨ v44o = 1 := (by rcases p44hv with w | w <;> omega)
      refine And.intro (by omega) ⟨fun h47 => ?_, fun h47 => ?_⟩
      · refine ⟨((101 - (i + 1)), 0, 0), zlt6 (by omega), [some (zvr (63)), some (zvi (n)), some (zvi (f)), some (zvi ((i + 1)))], ⟨rfl, rfl, rfl, rfl, rfl⟩, (i + 1), f, rfl, rfl, rfl, rfl, rfl, rfl, (by omega), ?_, ?_, (fun c j h0 => ((fr c j (by omega)).trans rfl))⟩
        · first
          | exact Or.inr ⟨by omega, g44 (by omega)⟩
          | (rcases hf with w | w
             · refine Or.inl ⟨w.1, fun q hq => ?_⟩
               by_cases e : q = i
               · rw [e]; exact g44b (by omega)
               · exact w.2 q (by omega)
             · first
               | exact Or.inr w
               | (exfalso; omega))
        · first
          | exact zCs_n hQ1 (fun x y q => jCl_e (dJf_n (g44b (by omega)) q))
          | (have hA : f = -1 := (by omega)
             have hno := (hf.resolve_right (fun w => by omega)).2
             have hct := g44 (by omega)
             exact zCs_a (D := fun _ _ => False) p60hS2 hf2 hf3 (fun _ _ q => q.elim) (fun c hc => by
               obtain ⟨t, h1, h2, h3⟩ := cOn hc
               have gi := (gw i (by omega)).1
               rw [← h3]
               exact cWw h1 (by omega) (by omega) (by omega) (by omega) (Or.inr ⟨n, hn.2, by omega, hct.2, hct.2⟩)) (fun x y q => (dJf_a (f := (i : Int)) (by have := (gw i (by omega)).1; omega) q).imp (fun k => by obtain ⟨w, t, k1, k2, k3, -⟩ := k; exact hno w k1 k3) id))
          | (have hB : 0 ≤ f := (by omega)
             have hfi := (hf.resolve_left (fun w => by omega)).2
             have hct := g44 (by omega)
             have e1 := hct.1
             have e2 := hfi.1
             exact zCs_a p60hS2 hf2 hf3 hf4 (fun c hc => by
               obtain ⟨t, h1, h2, h3⟩ := cOn hc
               have gi := (gw i (by omega)).1
               rw [← h3]
               exact cWw h1 (by omega) (by omega) (by omega) (by omega) (Or.inr ⟨n, hn.2, by omega, hfi.2, hct.2⟩)) (fun x y q => dJf_a (by have := (gw i (by omega)).1; omega) q))
      · refine And.intro ⟨(by omega), (zRb rfl)⟩ ⟨fun h52 => ?_, fun h52 => ?_⟩
        · refine And.intro (zA_63 hS) ⟨_, sn_C_pair.up (by decide), ?_⟩
          refine ⟨d, ob, F, (f : Int), (f).toNat, (i : Int), i, (dW d i 0).toNat, rfl, hS, hR, (zDA_fr hDA (fun c j h => fr c j (by omega))), (by first | exact hJG | (clear hQ; grind [xu])), hJ1, (by omega), (by omega), (by
  have gi := (gw i (by omega)).1
  refine ⟨?_, by omega, by omega⟩
  first
  | omega
  | (have hct := g44 (by omega)
     rcases hf with w | w
     · exfalso; omega
     · have e1 := hct.1
       have e2 := w.2.1
       omega)), ?_⟩
          intro I60o p60hS2 p60bfr
          refine ⟨((101 - (i + 1)), 0, 0), zlt6 (by omega), [some (zvr (63)), some (zvi (n)), some (zvi (f)), some (zvi ((i + 1)))], ⟨rfl, rfl, rfl, rfl, rfl⟩, (i + 1), f, rfl, rfl, rfl, rfl, rfl, rfl, (by omega), ?_, ?_, (fun c j h0 => ((p60bfr c j (by omega)).trans ((fr c j (by omega)).trans rfl)))⟩
          · first
            | exact Or.inr ⟨by omega, g44 (by omega)⟩
            | (rcases hf with w | w
               · refine Or.inl ⟨w.1, fun q hq => ?_⟩
                 by_cases e : q = i
                 · rw [e]; exact g44b (by omega)
                 · exact w.2 q (by omega)
               · first
                 | exact Or.inr w
                 | (exfalso; omega))
          · first
            | exact zCs_n hQ1 (fun x y q => jCl_e (dJf_n (g44b (by omega)) q))
            | (have hA : f = -1 := (by omega)
               have hno := (hf.resolve_right (fun w => by omega)).2
               have hct := g44 (by omega)
               exact zCs_a (D := fun _ _ => False) p60hS2 hf2 hf3 (fun _ _ q => q.elim) (fun c hc => by
                 obtain ⟨t, h1, h2, h3⟩ := cOn hc
                 have gi := (gw i (by omega)).1
                 rw [← h3]
                 exact cWw h1 (by omega) (by omega) (by omega) (by omega) (Or.inr ⟨n, hn.2, by omega, hct.2, hct.2⟩)) (fun x y q => (dJf_a (f := (i : Int)) (by have := (gw i (by omega)).1; omega) q).imp (fun k => by obtain ⟨w, t, k1, k2, k3, -⟩ := k; exact hno w k1 k3) id))
            | (have hB : 0 ≤ f := (by omega)
               have hfi := (hf.resolve_left (fun w => by omega)).2
               have hct := g44 (by omega)
               have e1 := hct.1
               have e2 := hfi.1
               exact zCs_a p60hS2 hf2 hf3 hf4 (fun c hc => by
                 obtain ⟨t, h1, h2, h3⟩ := cOn hc
                 have gi := (gw i (by omega)).1
                 rw [← h3]
                 exact cWw h1 (by omega) (by omega) (by omega) (by omega) (Or.inr ⟨n, hn.2, by omega, hfi.2, hct.2⟩)) (fun x y q => dJf_a (by have := (gw i (by omega)).1; omega) q))
        · refine And.intro (zA_63 hS) ⟨_, sn_C_pair.up (by decide), ?_⟩
          refine ⟨d, ob, F, (i : Int), i, (i : Int), i, (dW d i 0).toNat, rfl, hS, hR, (zDA_fr hDA (fun c j h => fr c j (by omega))), (by first | exact hJG | (clear hQ; grind [xu])), hJ1, (by omega), (by omega), (by
  have gi := (gw i (by omega)).1
  refine ⟨?_, by omega, by omega⟩
  first
  | omega
  | (have hct := g44 (by omega)
     rcases hf with w | w
     · exfalso; omega
     · have e1 := hct.1
       have e2 := w.2.1
       omega)), ?_⟩
          intro I60o p60hS2 p60bfr
          refine ⟨((101 - (i + 1)), 0, 0), zlt6 (by omega), [some (zvr (63)), some (zvi (n)), some (zvi (i)), some (zvi ((i + 1)))], ⟨rfl, rfl, rfl, rfl, rfl⟩, (i + 1), i, rfl, rfl, rfl, rfl, rfl, rfl, (by omega), ?_, ?_, (fun c j h0 => ((p60bfr c j (by omega)).trans ((fr c j (by omega)).trans rfl)))⟩
          · first
            | exact Or.inr ⟨by omega, g44 (by omega)⟩
            | (rcases hf with w | w
               · refine Or.inl ⟨w.1, fun q hq => ?_⟩
                 by_cases e : q = i
                 · rw [e]; exact g44b (by omega)
                 · exact w.2 q (by omega)
               · first
                 | exact Or.inr w
                 | (exfalso; omega))
          · first
            | exact zCs_n hQ1 (fun x y q => jCl_e (dJf_n (g44b (by omega)) q))
            | (have hA : f = -1 := (by omega)
               have hno := (hf.resolve_right (fun w => by omega)).2
               have hct := g44 (by omega)
               exact zCs_a (D := fun _ _ => False) p60hS2 hf2 hf3 (fun _ _ q => q.elim) (fun c hc => by
                 obtain ⟨t, h1, h2, h3⟩ := cOn hc
                 have gi := (gw i (by omega)).1
                 rw [← h3]
                 exact cWw h1 (by omega) (by omega) (by omega) (by omega) (Or.inr ⟨n, hn.2, by omega, hct.2, hct.2⟩)) (fun x y q => (dJf_a (f := (i : Int)) (by have := (gw i (by omega)).1; omega) q).imp (fun k => by obtain ⟨w, t, k1, k2, k3, -⟩ := k; exact hno w k1 k3) id))
            | (have hB : 0 ≤ f := (by omega)
               have hfi := (hf.resolve_left (fun w => by omega)).2
               have hct := g44 (by omega)
               have e1 := hct.1
               have e2 := hfi.1
               exact zCs_a p60hS2 hf2 hf3 hf4 (fun c hc => by
                 obtain ⟨t, h1, h2, h3⟩ := cOn hc
                 have gi := (gw i (by omega)).1
                 rw [← h3]
                 exact cWw h1 (by omega) (by omega) (by omega) (by omega) (Or.inr ⟨n, hn.2, by omega, hfi.2, hct.2⟩)) (fun x y q => dJf_a (by have := (gw i (by omega)).1; omega) q)))
def T_C_twL : ZT := fun args I L R S Q => ∃ (d : JdS) (ob : Nat → Int) (E : Nat → Nat → Prop), args = [zvr 63, zvr 72, zvi 960] ∧ (zSh S) ∧ (zRs R) ∧ (zDA d ob I) ∧ (jGd d) ∧ (zJF 78 E I) ∧ ∀ (I' : ZI), (zCs d E (dTw d (dL d) 960 (dnl d) 0) I') → (∀ c j : Nat, ¬ c = 78 → I' c j = I c j) → Q none I' L R S
theorem sn_C_twL : ZSnd 4 3 23 T_C_twL := ZSnd.loops (zT3_23 3) (by
  rintro args I L R S Q hz ⟨d, ob, E, rfl, hS, hR, hDA, hJG, hJF, hQ⟩
  obtain ⟨hSR, hCS, hWR, hJR, hLR, hPR, hTR⟩ := id hDA
  obtain ⟨⟨g1, g2, g3, g4, g5, g6⟩, gs, gw, gj, gl, gp, gt⟩ := id hJG
  obtain ⟨c1_, c2_, c3_, c4_⟩ := id hSR
  obtain ⟨w1_, w2_, w3_, w4_⟩ := id hWR
  obtain ⟨j1_, j2_, j3_, j4_⟩ := id hJR
  obtain ⟨l1_, l2_, l3_, l4_⟩ := id hLR
  obtain ⟨p1_, p2_, p3_, p4_⟩ := id hPR
  obtain ⟨t1_, t2_, t3_, t4_⟩ := id hTR
  refine ⟨[2, 13], fun nM tM lsM stM I1 L1 R1 S1 => match tM with
      | 2 => ∃ (i : Nat), nM = ((61 - i), 200, 0) ∧ lsM = [some (zvr (63)), some (zvr (72)), some (zvi (960)), some (zvi (i)), none] ∧ stM = [] ∧ L1 = L ∧ R1 = R ∧ S1 = S ∧ (i ≤ dnl d) ∧ (zCs d E (dTw d (dL d) 960 i 0) I1) ∧ (∀ c j : Nat, ¬ c = 78 → I1 c j = I c j)
      | 13 => ∃ (i : Nat) (j : Nat), nM = ((61 - i), (101 - j), 0) ∧ lsM = [some (zvr (63)), some (zvr (72)), some (zvi (960)), some (zvi (i)), some (zvi (j))] ∧ stM = [] ∧ L1 = L ∧ R1 = R ∧ S1 = S ∧ (i < dnl d ∧ j ≤ dnw d) ∧ (zCs d E (dTw d (dL d) 960 i j) I1) ∧ (∀ c j : Nat, ¬ c = 78 → I1 c j = I c j)
      | _ => False, rfl, ?_, ⟨?_, ?_, True.intro⟩⟩
  · refine ⟨((61 - (0 : Nat)), 200, 0), [some (zvr (63)), some (zvr (72)), some (zvi (960)), some (zvi ((0 : Nat))), none], ⟨rfl, rfl, rfl, rfl, rfl⟩, 0, rfl, rfl, rfl, rfl, rfl, rfl, (by omega), (zCs_0 hJF (fun x y q => by obtain ⟨n, w, t, h1, -⟩ := q; omega)), (fun c j h0 => rfl)⟩
  · rintro nM lsM stM I1 L1 R1 S1 hz1 ⟨i, rfl, rfl, rfl, rfl, rfl, rfl, hi, hQ1, fr⟩
    refine And.intro (zA_72 hS) (zrd (v := (dnl d)) ((fr 72 2 (by omega)).trans l2_) ?_)
    refine And.intro ⟨(by omega), (by omega)⟩ ⟨fun h7 => ?_, fun h7 => ?_⟩
    · refine hQ _ (by obtain rfl : i = dnl d := (by omega); exact hQ1) (fun c j h0 => ((fr c j (by omega)).trans rfl))
    · refine ⟨((61 - i), (101 - (0 : Nat)), 0), zlt6 (by omega), [some (zvr (63)), some (zvr (72)), some (zvi (960)), some (zvi (i)), some (zvi ((0 : Nat)))], ⟨rfl, rfl, rfl, rfl, rfl, rfl⟩, i, 0, rfl, rfl, rfl, rfl, rfl, rfl, (by omega), hQ1, (fun c j h0 => ((fr c j (by omega)).trans rfl))⟩
  · rintro nM lsM stM I1 L1 R1 S1 hz1 ⟨i, j, rfl, rfl, rfl, rfl, rfl, rfl, hi, hQ1, fr⟩
    obtain ⟨F, hJ1, hf2, hf3, hf4⟩ := id hQ1
    refine And.intro (zA_63 hS) (zrdR (v := some 68) (zR_63_4 hR) ?_)
    refine And.intro (zA_68 hS) (zrd (v := (dnw d)) ((fr 68 2 (by omega)).trans w2_) ?_)
    refine And.intro ⟨(by omega), (by omega)⟩ ⟨fun h22 => ?_, fun h22 => ?_⟩
    · refine ⟨((61 - (i + 1)), 200, 0), zlt6 (by omega), [some (zvr (63)), some (zvr (72)), some (zvi (960)), some (zvi ((i + 1))), none], ⟨rfl, rfl, rfl, rfl, rfl⟩, (i + 1), rfl, rfl, rfl, rfl, rfl, rfl, (by omega), (zCs_n hQ1 (fun x y q => jCl_e (by obtain rfl : j = dnw d := (by omega); exact dTw_i q))), (fun c j h0 => ((fr c j (by omega)).trans rfl))⟩
    · refine And.intro (zA_72 hS) ⟨_, sn_A_at.up (by decide), ?_⟩
      refine ⟨_, _, _, (dL d), i, 0, (i : Int), (0 : Int), rfl, hS, hR, (zRw_72 hR hS), (by first | exact (zRT_fr hLR (fun c j h => ((fr c j (by omega)).trans rfl))) | (clear hQ; grind [xu])), (by omega), (by omega), ?_⟩
      intro v31o p31hv p31bhr
      refine And.intro (zA_72 hS) ⟨_, sn_A_at.up (by decide), ?_⟩
      refine ⟨_, _, _, (dL d), i, 1, (i : Int), (1 : Int), rfl, hS, hR, (zRw_72 hR hS), (by first | exact (zRT_fr hLR (fun c j h => ((fr c j (by omega)).trans rfl))) | (clear hQ; grind [xu])), (by omega), (by omega), ?_⟩
      intro v37o p37hv p37bhr
      refine And.intro (zA_72 hS) ⟨_, sn_A_at.up (by decide), ?_⟩
      refine ⟨_, _, _, (dL d), i, 2, (i : Int), (2 : Int), rfl, hS, hR, (zRw_72 hR hS), (by first | exact (zRT_fr hLR (fun c j h => ((fr c j (by omega)).trans rfl))) | (clear hQ; grind [xu])), (by omega), (by omega), ?_⟩
      intro v43o p43hv p43bhr
      refine And.intro (zA_63 hS) ⟨_, sn_C_thr.up (by decide), ?_⟩
      refine ⟨d, ob, (j : Int), j, (v31o : Int), (v37o : Int), (v43o : Int), rfl, hS, hR, (zDA_fr hDA (fun c j h => fr c j (by omega))), (by first | exact hJG | (clear hQ; grind [xu])), (by omega), (by omega), (by rw [p37hv, p43hv]; have w := gl i (by omega); exact ⟨w.2.1, w.2.2.1⟩), ?_⟩
      intro v46o p46hv
      refine And.intro (by omega) ⟨fun h49 => ?_, fun h49 => ?_⟩
      · refine ⟨((61 - i), (101 - (j + 1)), 0), zlt6 (by omega), [some (zvr (63)), some (zvr (72)), some (zvi (960)), some (zvi (i)), some (zvi ((j + 1)))], ⟨rfl, rfl, rfl, rfl, rfl, rfl⟩, i, (j + 1), rfl, rfl, rfl, rfl, rfl, rfl, (by omega), ?_, (fun c j h0 => ((fr c j (by omega)).trans rfl))⟩
        · first
          | (have w9 := (p46hv.resolve_right (fun w => by have := w.1; omega)).2
             rw [p31hv, p37hv, p43hv] at w9
             exact zCs_a p74hS2 hf2 hf3 hf4 (fun c hc => by
               obtain ⟨t, h1, h2, h3⟩ := cOn hc
               have gi := (gl i (by omega)).1
               rw [← h3]
               exact cTw_l h1 (by omega) (by omega) (by omega) (by have := w9.1; omega) w9.2) (fun x y q => dTw_a (by have := (gl i (by omega)).1; omega) q))
          | (refine zCs_n hQ1 (fun x y q => jCl_e (dTw_n (fun k => ?_) q))
             have w9 := (p46hv.resolve_left (fun w => by have := w.1; omega)).2
             rw [p31hv, p37hv, p43hv] at w9
             exact w9 k)
      · refine And.intro (zA_72 hS) ⟨_, sn_A_at.up (by decide), ?_⟩
        refine ⟨_, _, _, (dL d), i, 0, (i : Int), (0 : Int), rfl, hS, hR, (zRw_72 hR hS), (by first | exact (zRT_fr hLR (fun c j h => ((fr c j (by omega)).trans rfl))) | (clear hQ; grind [xu])), (by omega), (by omega), ?_⟩
        intro v71o p71hv p71bhr
        refine And.intro (zA_63 hS) ⟨_, sn_C_cop.up (by decide), ?_⟩
        refine ⟨d, ob, F, ((960 + (i * 16)) : Int), (960 + 16 * i), ((1920 + (j * 16)) : Int), (1920 + 16 * j), (v71o : Int), (dL d i 0).toNat, rfl, hS, hR, (zDA_fr hDA (fun c j h => fr c j (by omega))), (by first | exact hJG | (clear hQ; grind [xu])), hJ1, (by omega), (by omega), (by have := (gl i (by omega)).1; exact ⟨by omega, by omega, by omega⟩), ?_⟩
        intro I74o p74hS2 p74bfr
        refine ⟨((61 - i), (101 - (j + 1)), 0), zlt6 (by omega), [some (zvr (63)), some (zvr (72)), some (zvi (960)), some (zvi (i)), some (zvi ((j + 1)))], ⟨rfl, rfl, rfl, rfl, rfl, rfl⟩, i, (j + 1), rfl, rfl, rfl, rfl, rfl, rfl, (by omega), ?_, (fun c j h0 => ((p74bfr c j (by omega)).trans ((fr c j (by omega)).trans rfl)))⟩
        · first
          | (have w9 := (p46hv.resolve_right (fun w => by have := w.1; omega)).2
             rw [p31hv, p37hv, p43hv] at w9
             exact zCs_a p74hS2 hf2 hf3 hf4 (fun c hc => by
               obtain ⟨t, h1, h2, h3⟩ := cOn hc
               have gi := (gl i (by omega)).1
               rw [← h3]
               exact cTw_l h1 (by omega) (by omega) (by omega) (by have := w9.1; omega) w9.2) (fun x y q => dTw_a (by have := (gl i (by omega)).1; omega) q))
          | (refine zCs_n hQ1 (fun x y q => jCl_e (dTw_n (fun k => ?_) q))
             have w9 := (p46hv.resolve_left (fun w => by have := w.1; omega)).2
             rw [p31hv, p37hv, p43hv] at w9
             exact w9 k))
def T_C_twT : ZT := fun args I L R S Q => ∃ (d : JdS) (ob : Nat → Int) (E : Nat → Nat → Prop), args = [zvr 63, zvr 76, zvi 0] ∧ (zSh S) ∧ (zRs R) ∧ (zDA d ob I) ∧ (jGd d) ∧ (zJF 78 E I) ∧ ∀ (I' : ZI), (zCs d E (dTw d (dT d) 0 (dnt d) 0) I') → (∀ c j : Nat, ¬ c = 78 → I' c j = I c j) → Q none I' L R S
theorem sn_C_twT : ZSnd 4 3 23 T_C_twT := ZSnd.loops (zT3_23 3) (by
  rintro args I L R S Q hz ⟨d, ob, E, rfl, hS, hR, hDA, hJG, hJF, hQ⟩
  obtain ⟨hSR, hCS, hWR, hJR, hLR, hPR, hTR⟩ := id hDA
  obtain ⟨⟨g1, g2, g3, g4, g5, g6⟩, gs, gw, gj, gl, gp, gt⟩ := id hJG
  obtain ⟨c1_, c2_, c3_, c4_⟩ := id hSR
  obtain ⟨w1_, w2_, w3_, w4_⟩ := id hWR
  obtain ⟨j1_, j2_, j3_, j4_⟩ := id hJR
  obtain ⟨l1_, l2_, l3_, l4_⟩ := id hLR
  obtain ⟨p1_, p2_, p3_, p4_⟩ := id hPR
  obtain ⟨t1_, t2_, t3_, t4_⟩ := id hTR
  refine ⟨[2, 13], fun nM tM lsM stM I1 L1 R1 S1 => match tM with
      | 2 => ∃ (i : Nat), nM = ((61 - i), 200, 0) ∧ lsM = [some (zvr (63)), some (zvr (76)), some (zvi (0)), some (zvi (i)), none] ∧ stM = [] ∧ L1 = L ∧ R1 = R ∧ S1 = S ∧ (i ≤ dnt d) ∧ (zCs d E (dTw d (dT d) 0 i 0) I1) ∧ (∀ c j : Nat, ¬ c = 78 → I1 c j = I c j)
      | 13 => ∃ (i : Nat) (j : Nat), nM = ((61 - i), (101 - j), 0) ∧ lsM = [some (zvr (63)), some (zvr (76)), some (zvi (0)), some (zvi (i)), some (zvi (j))] ∧ stM = [] ∧ L1 = L ∧ R1 = R ∧ S1 = S ∧ (i < dnt d ∧ j ≤ dnw d) ∧ (zCs d E (dTw d (dT d) 0 i j) I1) ∧ (∀ c j : Nat, ¬ c = 78 → I1 c j = I c j)
      | _ => False, rfl, ?_, ⟨?_, ?_, True.intro⟩⟩
  · refine ⟨((61 - (0 : Nat)), 200, 0), [some (zvr (63)), some (zvr (76)), some (zvi (0)), some (zvi ((0 : Nat))), none], ⟨rfl, rfl, rfl, rfl, rfl⟩, 0, rfl, rfl, rfl, rfl, rfl, rfl, (by omega), (zCs_0 hJF (fun x y q => by obtain ⟨n, w, t, h1, -⟩ := q; omega)), (fun c j h0 => rfl)⟩
  · rintro nM lsM stM I1 L1 R1 S1 hz1 ⟨i, rfl, rfl, rfl, rfl, rfl, rfl, hi, hQ1, fr⟩
    refine And.intro (zA_76 hS) (zrd (v := (dnt d)) ((fr 76 2 (by omega)).trans t2_) ?_)
    refine And.intro ⟨(by omega), (by omega)⟩ ⟨fun h7 => ?_, fun h7 => ?_⟩
    · refine hQ _ (by obtain rfl : i = dnt d := (by omega); exact hQ1) (fun c j h0 => ((fr c j (by omega)).trans rfl))
    · refine ⟨((61 - i), (101 - (0 : Nat)), 0), zlt6 (by omega), [some (zvr (63)), some (zvr (76)), some (zvi (0)), some (zvi (i)), some (zvi ((0 : Nat)))], ⟨rfl, rfl, rfl, rfl, rfl, rfl⟩, i, 0, rfl, rfl, rfl, rfl, rfl, rfl, (by omega), hQ1, (fun c j h0 => ((fr c j (by omega)).trans rfl))⟩
  · rintro nM lsM stM I1 L1 R1 S1 hz1 ⟨i, j, rfl, rfl, rfl, rfl, rfl, rfl, hi, hQ1, fr⟩
    obtain ⟨F, hJ1, hf2, hf3, hf4⟩ := id hQ1
    refine And.intro (zA_63 hS) (zrdR (v := some 68) (zR_63_4 hR) ?_)
    refine And.intro (zA_68 hS) (zrd (v := (dnw d)) ((fr 68 2 (by omega)).trans w2_) ?_)
    refine And.intro ⟨(by omega), (by omega)⟩ ⟨fun h22 => ?_, fun h22 => ?_⟩
    · refine ⟨((61 - (i + 1)), 200, 0), zlt6 (by omega), [some (zvr (63)), some (zvr (76)), some (zvi (0)), some (zvi ((i + 1))), none], ⟨rfl, rfl, rfl, rfl, rfl⟩, (i + 1), rfl, rfl, rfl, rfl, rfl, rfl, (by omega), (zCs_n hQ1 (fun x y q => jCl_e (by obtain rfl : j = dnw d := (by omega); exact dTw_i q))), (fun c j h0 => ((fr c j (by omega)).trans rfl))⟩
    · refine And.intro (zA_76 hS) ⟨_, sn_A_at.up (by decide), ?_⟩
      refine ⟨_, _, _, (dT d), i, 0, (i : Int), (0 : Int), rfl, hS, hR, (zRw_76 hR hS), (by first | exact (zRT_fr hTR (fun c j h => ((fr c j (by omega)).trans rfl))) | (clear hQ; grind [xu])), (by omega), (by omega), ?_⟩
      intro v31o p31hv p31bhr
      refine And.intro (zA_76 hS) ⟨_, sn_A_at.up (by decide), ?_⟩
      refine ⟨_, _, _, (dT d), i, 1, (i : Int), (1 : Int), rfl, hS, hR, (zRw_76 hR hS), (by first | exact (zRT_fr hTR (fun c j h => ((fr c j (by omega)).trans rfl))) | (clear hQ; grind [xu])), (by omega), (by omega), ?_⟩
      intro v37o p37hv p37bhr
      refine And.intro (zA_76 hS) ⟨_, sn_A_at.up (by decide), ?_⟩
      refine ⟨_, _, _, (dT d), i, 2, (i : Int), (2 : Int), rfl, hS, hR, (zRw_76 hR hS), (by first | exact (zRT_fr hTR (fun c j h => ((fr c j (by omega)).trans rfl))) | (clear hQ; grind [xu])), (by omega), (by omega), ?_⟩
      intro v43o p43hv p43bhr
      refine And.intro (zA_63 hS) ⟨_, sn_C_thr.up (by decide), ?_⟩
      refine ⟨d, ob, (j : Int), j, (v31o : Int), (v37o : Int), (v43o : Int), rfl, hS, hR, (zDA_fr hDA (fun c j h => fr c j (by omega))), (by first | exact hJG | (clear hQ; grind [xu])), (by omega), (by omega), (by rw [p37hv, p43hv]; have w := gt i (by omega); exact ⟨w.2.1, w.2.2⟩), ?_⟩
      intro v46o p46hv
      refine And.intro (by omega) ⟨fun h49 => ?_, fun h49 => ?_⟩
      · refine ⟨((61 - i), (101 - (j + 1)), 0), zlt6 (by omega), [some (zvr (63)), some (zvr (76)), some (zvi (0)), some (zvi (i)), some (zvi ((j + 1)))], ⟨rfl, rfl, rfl, rfl, rfl, rfl⟩, i, (j + 1), rfl, rfl, rfl, rfl, rfl, rfl, (by omega), ?_, (fun c j h0 => ((fr c j (by omega)).trans rfl))⟩
        · first
          | (have w9 := (p46hv.resolve_right (fun w => by have := w.1; omega)).2
             rw [p31hv, p37hv, p43hv] at w9
             exact zCs_a p74hS2 hf2 hf3 hf4 (fun c hc => by
               obtain ⟨t, h1, h2, h3⟩ := cOn hc
               have gi := (gt i (by omega)).1
               rw [← h3]
               exact cTw_t h1 (by omega) (by omega) (by omega) (by have := w9.1; omega) w9.2) (fun x y q => dTw_a (by have := (gt i (by omega)).1; omega) q))
          | (refine zCs_n hQ1 (fun x y q => jCl_e (dTw_n (fun k => ?_) q))
             have w9 := (p46hv.resolve_left (fun w => by have := w.1; omega)).2
             rw [p31hv, p37hv, p43hv] at w9
             exact w9 k)
      · refine And.intro (zA_76 hS) ⟨_, sn_A_at.up (by decide), ?_⟩
        refine ⟨_, _, _, (dT d), i, 0, (i : Int), (0 : Int), rfl, hS, hR, (zRw_76 hR hS), (by first | exact (zRT_fr hTR (fun c j h => ((fr c j (by omega)).trans rfl))) | (clear hQ; grind [xu])), (by omega), (by omega), ?_⟩
        intro v71o p71hv p71bhr
        refine And.intro (zA_63 hS) ⟨_, sn_C_cop.up (by decide), ?_⟩
        refine ⟨d, ob, F, ((0 + (i * 16)) : Int), (0 + 16 * i), ((1920 + (j * 16)) : Int), (1920 + 16 * j), (v71o : Int), (dT d i 0).toNat, rfl, hS, hR, (zDA_fr hDA (fun c j h => fr c j (by omega))), (by first | exact hJG | (clear hQ; grind [xu])), hJ1, (by omega), (by omega), (by have := (gt i (by omega)).1; exact ⟨by omega, by omega, by omega⟩), ?_⟩
        intro I74o p74hS2 p74bfr
        refine ⟨((61 - i), (101 - (j + 1)), 0), zlt6 (by omega), [some (zvr (63)), some (zvr (76)), some (zvi (0)), some (zvi (i)), some (zvi ((j + 1)))], ⟨rfl, rfl, rfl, rfl, rfl, rfl⟩, i, (j + 1), rfl, rfl, rfl, rfl, rfl, rfl, (by omega), ?_, (fun c j h0 => ((p74bfr c j (by omega)).trans ((fr c j (by omega)).trans rfl)))⟩
        · first
          | (have w9 := (p46hv.resolve_right (fun w => by have := w.1; omega)).2
             rw [p31hv, p37hv, p43hv] at w9
             exact zCs_a p74hS2 hf2 hf3 hf4 (fun c hc => by
               obtain ⟨t, h1, h2, h3⟩ := cOn hc
               have gi := (gt i (by omega)).1
               rw [← h3]
               exact cTw_t h1 (by omega) (by omega) (by omega) (by have := w9.1; omega) w9.2) (fun x y q => dTw_a (by have := (gt i (by omega)).1; omega) q))
          | (refine zCs_n hQ1 (fun x y q => jCl_e (dTw_n (fun k => ?_) q))
             have w9 := (p46hv.resolve_left (fun w => by have := w.1; omega)).2
             rw [p31hv, p37hv, p43hv] at w9
             exact w9 k))
def T_C_spLL : ZT := fun args I L R S Q => ∃ (d : JdS) (ob : Nat → Int) (E : Nat → Nat → Prop), args = [zvr 63, zvr 72, zvi 960, zvr 72, zvi 960] ∧ (zSh S) ∧ (zRs R) ∧ (zDA d ob I) ∧ (jGd d) ∧ (zJF 78 E I) ∧ ∀ (I' : ZI), (zCs d E (dSp d (dL d) (dL d) 960 960 (dnl d) (dnl d) 0) I') → (∀ c j : Nat, ¬ c = 78 → I' c j = I c j) → Q none I' L R S
theorem sn_C_spLL : ZSnd 4 3 22 T_C_spLL := ZSnd.loops (zT3_22 3) (by
  rintro args I L R S Q hz ⟨d, ob, E, rfl, hS, hR, hDA, hJG, hJF, hQ⟩
  obtain ⟨hSR, hCS, hWR, hJR, hLR, hPR, hTR⟩ := id hDA
  obtain ⟨⟨g1, g2, g3, g4, g5, g6⟩, gs, gw, gj, gl, gp, gt⟩ := id hJG
  obtain ⟨c1_, c2_, c3_, c4_⟩ := id hSR
  obtain ⟨w1_, w2_, w3_, w4_⟩ := id hWR
  obtain ⟨j1_, j2_, j3_, j4_⟩ := id hJR
  obtain ⟨l1_, l2_, l3_, l4_⟩ := id hLR
  obtain ⟨p1_, p2_, p3_, p4_⟩ := id hPR
  obtain ⟨t1_, t2_, t3_, t4_⟩ := id hTR
  refine ⟨[3, 15], fun nM tM lsM stM I1 L1 R1 S1 => match tM with
      | 3 => ∃ (i : Nat), nM = ((61 - i), 200, 0) ∧ lsM = [some (zvr (63)), some (zvr (72)), some (zvi (960)), some (zvr (72)), some (zvi (960)), some (zvi (i)), none] ∧ stM = [] ∧ L1 = L ∧ R1 = R ∧ S1 = S ∧ (i ≤ dnl d) ∧ (zCs d E (dSp d (dL d) (dL d) 960 960 (dnl d) i 0) I1) ∧ (∀ c j : Nat, ¬ c = 78 → I1 c j = I c j)
      | 15 => ∃ (i : Nat) (j : Nat), nM = ((61 - i), (61 - j), 0) ∧ lsM = [some (zvr (63)), some (zvr (72)), some (zvi (960)), some (zvr (72)), some (zvi (960)), some (zvi (i)), some (zvi (j))] ∧ stM = [] ∧ L1 = L ∧ R1 = R ∧ S1 = S ∧ (i < dnl d ∧ j ≤ dnl d) ∧ (zCs d E (dSp d (dL d) (dL d) 960 960 (dnl d) i j) I1) ∧ (∀ c j : Nat, ¬ c = 78 → I1 c j = I c j)
      | _ => False, rfl, ?_, ⟨?_, ?_, True.intro⟩⟩
  · refine ⟨((61 - (0 : Nat)), 200, 0), [some (zvr (63)), some (zvr (72)), some (zvi (960)), some (zvr (72)), some (zvi (960)), some (zvi ((0 : Nat))), none], ⟨rfl, rfl, rfl, rfl, rfl, rfl, rfl⟩, 0, rfl, rfl, rfl, rfl, rfl, rfl, (by omega), (zCs_0 hJF (fun x y q => by obtain ⟨n, w, t, h1, -⟩ := q; omega)), (fun c j h0 => rfl)⟩
  · rintro nM lsM stM I1 L1 R1 S1 hz1 ⟨i, rfl, rfl, rfl, rfl, rfl, rfl, hi, hQ1, fr⟩
    refine And.intro (zA_72 hS) (zrd (v := (dnl d)) ((fr 72 2 (by omega)).trans l2_) ?_)
    refine And.intro ⟨(by omega), (by omega)⟩ ⟨fun h9 => ?_, fun h9 => ?_⟩
    · refine hQ _ (by obtain rfl : i = dnl d := (by omega); exact hQ1) (fun c j h0 => ((fr c j (by omega)).trans rfl))
    · refine ⟨((61 - i), (61 - (0 : Nat)), 0), zlt6 (by omega), [some (zvr (63)), some (zvr (72)), some (zvi (960)), some (zvr (72)), some (zvi (960)), some (zvi (i)), some (zvi ((0 : Nat)))], ⟨rfl, rfl, rfl, rfl, rfl, rfl, rfl, rfl⟩, i, 0, rfl, rfl, rfl, rfl, rfl, rfl, (by omega), hQ1, (fun c j h0 => ((fr c j (by omega)).trans rfl))⟩
  · rintro nM lsM stM I1 L1 R1 S1 hz1 ⟨i, j, rfl, rfl, rfl, rfl, rfl, rfl, hi, hQ1, fr⟩
    obtain ⟨F, hJ1, hf2, hf3, hf4⟩ := id hQ1
    refine And.intro (zA_72 hS) (zrd (v := (dnl d)) ((fr 72 2 (by omega)).trans l2_) ?_)
    refine And.intro ⟨(by omega), (by omega)⟩ ⟨fun h21 => ?_, fun h21 => ?_⟩
    · refine ⟨((61 - (i + 1)), 200, 0), zlt6 (by omega), [some (zvr (63)), some (zvr (72)), some (zvi (960)), some (zvr (72)), some (zvi (960)), some (zvi ((i + 1))), none], ⟨rfl, rfl, rfl, rfl, rfl, rfl, rfl⟩, (i + 1), rfl, rfl, rfl, rfl, rfl, rfl, (by omega), (zCs_n hQ1 (fun x y q => jCl_e (by obtain rfl : j = dnl d := (by omega); exact dSp_i q))), (fun c j h0 => ((fr c j (by omega)).trans rfl))⟩
    · refine And.intro (zA_72 hS) ⟨_, sn_A_at.up (by decide), ?_⟩
      refine ⟨_, _, _, (dL d), i, 0, (i : Int), (0 : Int), rfl, hS, hR, (zRw_72 hR hS), (by first | exact (zRT_fr hLR (fun c j h => ((fr c j (by omega)).trans rfl))) | (clear hQ; grind [xu])), (by omega), (by omega), ?_⟩
      intro v31o p31hv p31bhr
      refine And.intro (zA_72 hS) ⟨_, sn_A_at.up (by decide), ?_⟩
      refine ⟨_, _, _, (dL d), i, 1, (i : Int), (1 : Int), rfl, hS, hR, (zRw_72 hR hS), (by first | exact (zRT_fr hLR (fun c j h => ((fr c j (by omega)).trans rfl))) | (clear hQ; grind [xu])), (by omega), (by omega), ?_⟩
      intro v38o p38hv p38bhr
      refine And.intro (zA_72 hS) ⟨_, sn_A_at.up (by decide), ?_⟩
      refine ⟨_, _, _, (dL d), i, 2, (i : Int), (2 : Int), rfl, hS, hR, (zRw_72 hR hS), (by first | exact (zRT_fr hLR (fun c j h => ((fr c j (by omega)).trans rfl))) | (clear hQ; grind [xu])), (by omega), (by omega), ?_⟩
      intro v45o p45hv p45bhr
      refine ⟨_, sn_C_at.up (by decide), ?_⟩
      refine ⟨72, _, _, (dL d), (j : Int), j, (v31o : Int), (v38o : Int), (v45o : Int), rfl, hS, hR, (zRw_72 hR hS), (by first | exact (zRT_fr hLR (fun c j h => ((fr c j (by omega)).trans rfl))) | (clear hQ; grind [xu])), (by omega), (by omega), ?_⟩
      intro v48o p48hv
      refine And.intro (by omega) ⟨fun h51 => ?_, fun h51 => ?_⟩
      · refine ⟨((61 - i), (61 - (j + 1)), 0), zlt6 (by omega), [some (zvr (63)), some (zvr (72)), some (zvi (960)), some (zvr (72)), some (zvi (960)), some (zvi (i)), some (zvi ((j + 1)))], ⟨rfl, rfl, rfl, rfl, rfl, rfl, rfl, rfl⟩, i, (j + 1), rfl, rfl, rfl, rfl, rfl, rfl, (by omega), ?_, (fun c j h0 => ((fr c j (by omega)).trans rfl))⟩
        · first
          | (have w9 := (p48hv.resolve_right (fun w => by have := w.1; omega)).2
             rw [p31hv, p38hv, p45hv] at w9
             exact zCs_a p77hS2 hf2 hf3 hf4 (fun c hc => by
               obtain ⟨t, h1, h2, h3⟩ := cOn hc
               have gi := (gl i (by omega)).1
               rw [← h3]
               exact cSp_ll h1 (by omega) (by omega) (by omega) (by have := w9.1; omega) w9.2.1 w9.2.2) (fun x y q => dSp_a (by have := (gl i (by omega)).1; omega) q))
          | (refine zCs_n hQ1 (fun x y q => jCl_e (dSp_n (fun k => ?_) q))
             have w9 := (p48hv.resolve_left (fun w => by have := w.1; omega)).2
             rw [p31hv, p38hv, p45hv] at w9
             exact w9 k)
      · refine And.intro (zA_72 hS) ⟨_, sn_A_at.up (by decide), ?_⟩
        refine ⟨_, _, _, (dL d), i, 0, (i : Int), (0 : Int), rfl, hS, hR, (zRw_72 hR hS), (by first | exact (zRT_fr hLR (fun c j h => ((fr c j (by omega)).trans rfl))) | (clear hQ; grind [xu])), (by omega), (by omega), ?_⟩
        intro v74o p74hv p74bhr
        refine And.intro (zA_63 hS) ⟨_, sn_C_cop.up (by decide), ?_⟩
        refine ⟨d, ob, F, ((960 + (i * 16)) : Int), (960 + 16 * i), ((960 + (j * 16)) : Int), (960 + 16 * j), (v74o : Int), (dL d i 0).toNat, rfl, hS, hR, (zDA_fr hDA (fun c j h => fr c j (by omega))), (by first | exact hJG | (clear hQ; grind [xu])), hJ1, (by omega), (by omega), (by have := (gl i (by omega)).1; exact ⟨by omega, by omega, by omega⟩), ?_⟩
        intro I77o p77hS2 p77bfr
        refine ⟨((61 - i), (61 - (j + 1)), 0), zlt6 (by omega), [some (zvr (63)), some (zvr (72)), some (zvi (960)), some (zvr (72)), some (zvi (960)), some (zvi (i)), some (zvi ((j + 1)))], ⟨rfl, rfl, rfl, rfl, rfl, rfl, rfl, rfl⟩, i, (j + 1), rfl, rfl, rfl, rfl, rfl, rfl, (by omega), ?_, (fun c j h0 => ((p77bfr c j (by omega)).trans ((fr c j (by omega)).trans rfl)))⟩
        · first
          | (have w9 := (p48hv.resolve_right (fun w => by have := w.1; omega)).2
             rw [p31hv, p38hv, p45hv] at w9
             exact zCs_a p77hS2 hf2 hf3 hf4 (fun c hc => by
               obtain ⟨t, h1, h2, h3⟩ := cOn hc
               have gi := (gl i (by omega)).1
               rw [← h3]
               exact cSp_ll h1 (by omega) (by omega) (by omega) (by have := w9.1; omega) w9.2.1 w9.2.2) (fun x y q => dSp_a (by have := (gl i (by omega)).1; omega) q))
          | (refine zCs_n hQ1 (fun x y q => jCl_e (dSp_n (fun k => ?_) q))
             have w9 := (p48hv.resolve_left (fun w => by have := w.1; omega)).2
             rw [p31hv, p38hv, p45hv] at w9
             exact w9 k))
def T_C_spLT : ZT := fun args I L R S Q => ∃ (d : JdS) (ob : Nat → Int) (E : Nat → Nat → Prop), args = [zvr 63, zvr 72, zvi 960, zvr 76, zvi 0] ∧ (zSh S) ∧ (zRs R) ∧ (zDA d ob I) ∧ (jGd d) ∧ (zJF 78 E I) ∧ ∀ (I' : ZI), (zCs d E (dSp d (dL d) (dT d) 960 0 (dnt d) (dnl d) 0) I') → (∀ c j : Nat, ¬ c = 78 → I' c j = I c j) → Q none I' L R S
theorem sn_C_spLT : ZSnd 4 3 22 T_C_spLT := ZSnd.loops (zT3_22 3) (by
  rintro args I L R S Q hz ⟨d, ob, E, rfl, hS, hR, hDA, hJG, hJF, hQ⟩
  obtain ⟨hSR, hCS, hWR, hJR, hLR, hPR, hTR⟩ := id hDA
  obtain ⟨⟨g1, g2, g3, g4, g5, g6⟩, gs, gw, gj, gl, gp, gt⟩ := id hJG
  obtain ⟨c1_, c2_, c3_, c4_⟩ := id hSR
  obtain ⟨w1_, w2_, w3_, w4_⟩ := id hWR
  obtain ⟨j1_, j2_, j3_, j4_⟩ := id hJR
  obtain ⟨l1_, l2_, l3_, l4_⟩ := id hLR
  obtain ⟨p1_, p2_, p3_, p4_⟩ := id hPR
  obtain ⟨t1_, t2_, t3_, t4_⟩ := id hTR
  refine ⟨[3, 15], fun nM tM lsM stM I1 L1 R1 S1 => match tM with
      | 3 => ∃ (i : Nat), nM = ((61 - i), 200, 0) ∧ lsM = [some (zvr (63)), some (zvr (72)), some (zvi (960)), some (zvr (76)), some (zvi (0)), some (zvi (i)), none] ∧ stM = [] ∧ L1 = L ∧ R1 = R ∧ S1 = S ∧ (i ≤ dnl d) ∧ (zCs d E (dSp d (dL d) (dT d) 960 0 (dnt d) i 0) I1) ∧ (∀ c j : Nat, ¬ c = 78 → I1 c j = I c j)
      | 15 => ∃ (i : Nat) (j : Nat), nM = ((61 - i), (61 - j), 0) ∧ lsM = [some (zvr (63)), some (zvr (72)), some (zvi (960)), some (zvr (76)), some (zvi (0)), some (zvi (i)), some (zvi (j))] ∧ stM = [] ∧ L1 = L ∧ R1 = R ∧ S1 = S ∧ (i < dnl d ∧ j ≤ dnt d) ∧ (zCs d E (dSp d (dL d) (dT d) 960 0 (dnt d) i j) I1) ∧ (∀ c j : Nat, ¬ c = 78 → I1 c j = I c j)
      | _ => False, rfl, ?_, ⟨?_, ?_, True.intro⟩⟩
  · refine ⟨((61 - (0 : Nat)), 200, 0), [some (zvr (63)), some (zvr (72)), some (zvi (960)), some (zvr (76)), some (zvi (0)), some (zvi ((0 : Nat))), none], ⟨rfl, rfl, rfl, rfl, rfl, rfl, rfl⟩, 0, rfl, rfl, rfl, rfl, rfl, rfl, (by omega), (zCs_0 hJF (fun x y q => by obtain ⟨n, w, t, h1, -⟩ := q; omega)), (fun c j h0 => rfl)⟩
  · rintro nM lsM stM I1 L1 R1 S1 hz1 ⟨i, rfl, rfl, rfl, rfl, rfl, rfl, hi, hQ1, fr⟩
    refine And.intro (zA_72 hS) (zrd (v := (dnl d)) ((fr 72 2 (by omega)).trans l2_) ?_)
    refine And.intro ⟨(by omega), (by omega)⟩ ⟨fun h9 => ?_, fun h9 => ?_⟩
    · refine hQ _ (by obtain rfl : i = dnl d := (by omega); exact hQ1) (fun c j h0 => ((fr c j (by omega)).trans rfl))
    · refine ⟨((61 - i), (61 - (0 : Nat)), 0), zlt6 (by omega), [some (zvr (63)), some (zvr (72)), some (zvi (960)), some (zvr (76)), some (zvi (0)), some (zvi (i)), some (zvi ((0 : Nat)))], ⟨rfl, rfl, rfl, rfl, rfl, rfl, rfl, rfl⟩, i, 0, rfl, rfl, rfl, rfl, rfl, rfl, (by omega), hQ1, (fun c j h0 => ((fr c j (by omega)).trans rfl))⟩
  · rintro nM lsM stM I1 L1 R1 S1 hz1 ⟨i, j, rfl, rfl, rfl, rfl, rfl, rfl, hi, hQ1, fr⟩
    obtain ⟨F, hJ1, hf2, hf3, hf4⟩ := id hQ1
    refine And.intro (zA_76 hS) (zrd (v := (dnt d)) ((fr 76 2 (by omega)).trans t2_) ?_)
    refine And.intro ⟨(by omega), (by omega)⟩ ⟨fun h21 => ?_, fun h21 => ?_⟩
    · refine ⟨((61 - (i + 1)), 200, 0), zlt6 (by omega), [some (zvr (63)), some (zvr (72)), some (zvi (960)), some (zvr (76)), some (zvi (0)), some (zvi ((i + 1))), none], ⟨rfl, rfl, rfl, rfl, rfl, rfl, rfl⟩, (i + 1), rfl, rfl, rfl, rfl, rfl, rfl, (by omega), (zCs_n hQ1 (fun x y q => jCl_e (by obtain rfl : j = dnt d := (by omega); exact dSp_i q))), (fun c j h0 => ((fr c j (by omega)).trans rfl))⟩
    · refine And.intro (zA_72 hS) ⟨_, sn_A_at.up (by decide), ?_⟩
      refine ⟨_, _, _, (dL d), i, 0, (i : Int), (0 : Int), rfl, hS, hR, (zRw_72 hR hS), (by first | exact (zRT_fr hLR (fun c j h => ((fr c j (by omega)).trans rfl))) | (clear hQ; grind [xu])), (by omega), (by omega), ?_⟩
      intro v31o p31hv p31bhr
      refine And.intro (zA_72 hS) ⟨_, sn_A_at.up (by decide), ?_⟩
      refine ⟨_, _, _, (dL d), i, 1, (i : Int), (1 : Int), rfl, hS, hR, (zRw_72 hR hS), (by first | exact (zRT_fr hLR (fun c j h => ((fr c j (by omega)).trans rfl))) | (clear hQ; grind [xu])), (by omega), (by omega), ?_⟩
      intro v38o p38hv p38bhr
      refine And.intro (zA_72 hS) ⟨_, sn_A_at.up (by decide), ?_⟩
      refine ⟨_, _, _, (dL d), i, 2, (i : Int), (2 : Int), rfl, hS, hR, (zRw_72 hR hS), (by first | exact (zRT_fr hLR (fun c j h => ((fr c j (by omega)).trans rfl))) | (clear hQ; grind [xu])), (by omega), (by omega), ?_⟩
      intro v45o p45hv p45bhr
      refine ⟨_, sn_C_at.up (by decide), ?_⟩
      refine ⟨76, _, _, (dT d), (j : Int), j, (v31o : Int), (v38o : Int), (v45o : Int), rfl, hS, hR, (zRw_76 hR hS), (by first | exact (zRT_fr hTR (fun c j h => ((fr c j (by omega)).trans rfl))) | (clear hQ; grind [xu])), (by omega), (by omega), ?_⟩
      intro v48o p48hv
      refine And.intro (by omega) ⟨fun h51 => ?_, fun h51 => ?_⟩
      · refine ⟨((61 - i), (61 - (j + 1)), 0), zlt6 (by omega), [some (zvr (63)), some (zvr (72)), some (zvi (960)), some (zvr (76)), some (zvi (0)), some (zvi (i)), some (zvi ((j + 1)))], ⟨rfl, rfl, rfl, rfl, rfl, rfl, rfl, rfl⟩, i, (j + 1), rfl, rfl, rfl, rfl, rfl, rfl, (by omega), ?_, (fun c j h0 => ((fr c j (by omega)).trans rfl))⟩
        · first
          | (have w9 := (p48hv.resolve_right (fun w => by have := w.1; omega)).2
             rw [p31hv, p38hv, p45hv] at w9
             exact zCs_a p77hS2 hf2 hf3 hf4 (fun c hc => by
               obtain ⟨t, h1, h2, h3⟩ := cOn hc
               have gi := (gl i (by omega)).1
               rw [← h3]
               exact cSp_lt h1 (by omega) (by omega) (by omega) (by have := w9.1; omega) w9.2.1 w9.2.2) (fun x y q => dSp_a (by have := (gl i (by omega)).1; omega) q))
          | (refine zCs_n hQ1 (fun x y q => jCl_e (dSp_n (fun k => ?_) q))
             have w9 := (p48hv.resolve_left (fun w => by have := w.1; omega)).2
             rw [p31hv, p38hv, p45hv] at w9
             exact w9 k)
      · refine And.intro (zA_72 hS) ⟨_, sn_A_at.up (by decide), ?_⟩
        refine ⟨_, _, _, (dL d), i, 0, (i : Int), (0 : Int), rfl, hS, hR, (zRw_72 hR hS), (by first | exact (zRT_fr hLR (fun c j h => ((fr c j (by omega)).trans rfl))) | (clear hQ; grind [xu])), (by omega), (by omega), ?_⟩
        intro v74o p74hv p74bhr
        refine And.intro (zA_63 hS) ⟨_, sn_C_cop.up (by decide), ?_⟩
        refine ⟨d, ob, F, ((960 + (i * 16)) : Int), (960 + 16 * i), ((0 + (j * 16)) : Int), (0 + 16 * j), (v74o : Int), (dL d i 0).toNat, rfl, hS, hR, (zDA_fr hDA (fun c j h => fr c j (by omega))), (by first | exact hJG | (clear hQ; grind [xu])), hJ1, (by omega), (by omega), (by have := (gl i (by omega)).1; exact ⟨by omega, by omega, by omega⟩), ?_⟩
        intro I77o p77hS2 p77bfr
        refine ⟨((61 - i), (61 - (j + 1)), 0), zlt6 (by omega), [some (zvr (63)), some (zvr (72)), some (zvi (960)), some (zvr (76)), some (zvi (0)), some (zvi (i)), some (zvi ((j + 1)))], ⟨rfl, rfl, rfl, rfl, rfl, rfl, rfl, rfl⟩, i, (j + 1), rfl, rfl, rfl, rfl, rfl, rfl, (by omega), ?_, (fun c j h0 => ((p77bfr c j (by omega)).trans ((fr c j (by omega)).trans rfl)))⟩
        · first
          | (have w9 := (p48hv.resolve_right (fun w => by have := w.1; omega)).2
             rw [p31hv, p38hv, p45hv] at w9
             exact zCs_a p77hS2 hf2 hf3 hf4 (fun c hc => by
               obtain ⟨t, h1, h2, h3⟩ := cOn hc
               have gi := (gl i (by omega)).1
               rw [← h3]
               exact cSp_lt h1 (by omega) (by omega) (by omega) (by have := w9.1; omega) w9.2.1 w9.2.2) (fun x y q => dSp_a (by have := (gl i (by omega)).1; omega) q))
          | (refine zCs_n hQ1 (fun x y q => jCl_e (dSp_n (fun k => ?_) q))
             have w9 := (p48hv.resolve_left (fun w => by have := w.1; omega)).2
             rw [p31hv, p38hv, p45hv] at w9
             exact w9 k))
def T_C_spTT : ZT := fun args I L R S Q => ∃ (d : JdS) (ob : Nat → Int) (E : Nat → Nat → Prop), args = [zvr 63, zvr 76, zvi 0, zvr 76, zvi 0] ∧ (zSh S) ∧ (zRs R) ∧ (zDA d ob I) ∧ (jGd d) ∧ (zJF 78 E I) ∧ ∀ (I' : ZI), (zCs d E (dSp d (dT d) (dT d) 0 0 (dnt d) (dnt d) 0) I') → (∀ c j : Nat, ¬ c = 78 → I' c j = I c j) → Q none I' L R S
theorem sn_C_spTT : ZSnd 4 3 22 T_C_spTT := ZSnd.loops (zT3_22 3) (by
  rintro args I L R S Q hz ⟨d, ob, E, rfl, hS, hR, hDA, hJG, hJF, hQ⟩
  obtain ⟨hSR, hCS, hWR, hJR, hLR, hPR, hTR⟩ := id hDA
  obtain ⟨⟨g1, g2, g3, g4, g5, g6⟩, gs, gw, gj, gl, gp, gt⟩ := id hJG
  obtain ⟨c1_, c2_, c3_, c4_⟩ := id hSR
  obtain ⟨w1_, w2_, w3_, w4_⟩ := id hWR
  obtain ⟨j1_, j2_, j3_, j4_⟩ := id hJR
  obtain ⟨l1_, l2_, l3_, l4_⟩ := id hLR
  obtain ⟨p1_, p2_, p3_, p4_⟩ := id hPR
  obtain ⟨t1_, t2_, t3_, t4_⟩ := id hTR
  refine ⟨[3, 15], fun nM tM lsM stM I1 L1 R1 S1 => match tM with
      | 3 => ∃ (i : Nat), nM = ((61 - i), 200, 0) ∧ lsM = [some (zvr (63)), some (zvr (76)), some (zvi (0)), some (zvr (76)), some (zvi (0)), some (zvi (i)), none] ∧ stM = [] ∧ L1 = L ∧ R1 = R ∧ S1 = S ∧ (i ≤ dnt d) ∧ (zCs d E (dSp d (dT d) (dT d) 0 0 (dnt d) i 0) I1) ∧ (∀ c j : Nat, ¬ c = 78 → I1 c j = I c j)
      | 15 => ∃ (i : Nat) (j : Nat), nM = ((61 - i), (61 - j), 0) ∧ lsM = [some (zvr (63)), some (zvr (76)), some (zvi (0)), some (zvr (76)), some (zvi (0)), some (zvi (i)), some (zvi (j))] ∧ stM = [] ∧ L1 = L ∧ R1 = R ∧ S1 = S ∧ (i < dnt d ∧ j ≤ dnt d) ∧ (zCs d E (dSp d (dT d) (dT d) 0 0 (dnt d) i j) I1) ∧ (∀ c j : Nat, ¬ c = 78 → I1 c j = I c j)
      | _ => False, rfl, ?_, ⟨?_, ?_, True.intro⟩⟩
  · refine ⟨((61 - (0 : Nat)), 200, 0), [some (zvr (63)), some (zvr (76)), some (zvi (0)), some (zvr (76)), some (zvi (0)), some (zvi ((0 : Nat))), none], ⟨rfl, rfl, rfl, rfl, rfl, rfl, rfl⟩, 0, rfl, rfl, rfl, rfl, rfl, rfl, (by omega), (zCs_0 hJF (fun x y q => by obtain ⟨n, w, t, h1, -⟩ := q; omega)), (fun c j h0 => rfl)⟩
  · rintro nM lsM stM I1 L1 R1 S1 hz1 ⟨i, rfl, rfl, rfl, rfl, rfl, rfl, hi, hQ1, fr⟩
    refine And.intro (zA_76 hS) (zrd (v := (dnt d)) ((fr 76 2 (by omega)).trans t2_) ?_)
    refine And.intro ⟨(by omega), (by omega)⟩ ⟨fun h9 => ?_, fun h9 => ?_⟩
    · refine hQ _ (by obtain rfl : i = dnt d := (by omega); exact hQ1) (fun c j h0 => ((fr c j (by omega)).trans rfl))
    · refine ⟨((61 - i), (61 - (0 : Nat)), 0), zlt6 (by omega), [some (zvr (63)), some (zvr (76)), some (zvi (0)), some (zvr (76)), some (zvi (0)), some (zvi (i)), some (zvi ((0 : Nat)))], ⟨rfl, rfl, rfl, rfl, rfl, rfl, rfl, rfl⟩, i, 0, rfl, rfl, rfl, rfl, rfl, rfl, (by omega), hQ1, (fun c j h0 => ((fr c j (by omega)).trans rfl))⟩
  · rintro nM lsM stM I1 L1 R1 S1 hz1 ⟨i, j, rfl, rfl, rfl, rfl, rfl, rfl, hi, hQ1, fr⟩
    obtain ⟨F, hJ1, hf2, hf3, hf4⟩ := id hQ1
    refine And.intro (zA_76 hS) (zrd (v := (dnt d)) ((fr 76 2 (by omega)).trans t2_) ?_)
    refine And.intro ⟨(by omega), (by omega)⟩ ⟨fun h21 => ?_, fun h21 => ?_⟩
    · refine ⟨((61 - (i + 1)), 200, 0), zlt6 (by omega), [some (zvr (63)), some (zvr (76)), some (zvi (0)), some (zvr (76)), some (zvi (0)), some (zvi ((i + 1))), none], ⟨rfl, rfl, rfl, rfl, rfl, rfl, rfl⟩, (i + 1), rfl, rfl, rfl, rfl, rfl, rfl, (by omega), (zCs_n hQ1 (fun x y q => jCl_e (by obtain rfl : j = dnt d := (by omega); exact dSp_i q))), (fun c j h0 => ((fr c j (by omega)).trans rfl))⟩
    · refine And.intro (zA_76 hS) ⟨_, sn_A_at.up (by decide), ?_⟩
      refine ⟨_, _, _, (dT d), i, 0, (i : Int), (0 : Int), rfl, hS, hR, (zRw_76 hR hS), (by first | exact (zRT_fr hTR (fun c j h => ((fr c j (by omega)).trans rfl))) | (clear hQ; grind [xu])), (by omega), (by omega), ?_⟩
      intro v31o p31hv p31bhr
      refine And.intro (zA_76 hS) ⟨_, sn_A_at.up (by decide), ?_⟩
      refine ⟨_, _, _, (dT d), i, 1, (i : Int), (1 : Int), rfl, hS, hR, (zRw_76 hR hS), (by first | exact (zRT_fr hTR (fun c j h => ((fr c j (by omega)).trans rfl))) | (clear hQ; grind [xu])), (by omega), (by omega), ?_⟩
      intro v38o p38hv p38bhr
      refine And.intro (zA_76 hS) ⟨_, sn_A_at.up (by decide), ?_⟩
      refine ⟨_, _, _, (dT d), i, 2, (i : Int), (2 : Int), rfl, hS, hR, (zRw_76 hR hS), (by first | exact (zRT_fr hTR (fun c j h => ((fr c j (by omega)).trans rfl))) | (clear hQ; grind [xu])), (by omega), (by omega), ?_⟩
      intro v45o p45hv p45bhr
      refine ⟨_, sn_C_at.up (by decide), ?_⟩
      refine ⟨76, _, _, (dT d), (j : Int), j, (v31o : Int), (v38o : Int), (v45o : Int), rfl, hS, hR, (zRw_76 hR hS), (by first | exact (zRT_fr hTR (fun c j h => ((fr c j (by omega)).trans rfl))) | (clear hQ; grind [xu])), (by omega), (by omega), ?_⟩
      intro v48o p48hv
      refine And.intro (by omega) ⟨fun h51 => ?_, fun h51 => ?_⟩
      · refine ⟨((61 - i), (61 - (j + 1)), 0), zlt6 (by omega), [some (zvr (63)), some (zvr (76)), some (zvi (0)), some (zvr (76)), some (zvi (0)), some (zvi (i)), some (zvi ((j + 1)))], ⟨rfl, rfl, rfl, rfl, rfl, rfl, rfl, rfl⟩, i, (j + 1), rfl, rfl, rfl, rfl, rfl, rfl, (by omega), ?_, (fun c j h0 => ((fr c j (by omega)).trans rfl))⟩
        · first
          | (have w9 := (p48hv.resolve_right (fun w => by have := w.1; omega)).2
             rw [p31hv, p38hv, p45hv] at w9
             exact zCs_a p77hS2 hf2 hf3 hf4 (fun c hc => by
               obtain ⟨t, h1, h2, h3⟩ := cOn hc
               have gi := (gt i (by omega)).1
               rw [← h3]
               exact cSp_tt h1 (by omega) (by omega) (by omega) (by have := w9.1; omega) w9.2.1 w9.2.2) (fun x y q => dSp_a (by have := (gt i (by omega)).1; omega) q))
          | (refine zCs_n hQ1 (fun x y q => jCl_e (dSp_n (fun k => ?_) q))
             have w9 := (p48hv.resolve_left (fun w => by have := w.1; omega)).2
             rw [p31hv, p38hv, p45hv] at w9
             exact w9 k)
      · refine And.intro (zA_76 hS) ⟨_, sn_A_at.up (by decide), ?_⟩
        refine ⟨_, _, _, (dT d), i, 0, (i : Int), (0 : Int), rfl, hS, hR, (zRw_76 hR hS), (by first | exact (zRT_fr hTR (fun c j h => ((fr c j (by omega)).trans rfl))) | (clear hQ; grind [xu])), (by omega), (by omega), ?_⟩
        intro v74o p74hv p74bhr
        refine And.intro (zA_63 hS) ⟨_, sn_C_cop.up (by decide), ?_⟩
        refine ⟨d, ob, F, ((0 + (i * 16)) : Int), (0 + 16 * i), ((0 + (j * 16)) : Int), (0 + 16 * j), (v74o : Int), (dT d i 0).toNat, rfl, hS, hR, (zDA_fr hDA (fun c j h => fr c j (by omega))), (by first | exact hJG | (clear hQ; grind [xu])), hJ1, (by omega), (by omega), (by have := (gt i (by omega)).1; exact ⟨by omega, by omega, by omega⟩), ?_⟩
        intro I77o p77hS2 p77bfr
        refine ⟨((61 - i), (61 - (j + 1)), 0), zlt6 (by omega), [some (zvr (63)), some (zvr (76)), some (zvi (0)), some (zvr (76)), some (zvi (0)), some (zvi (i)), some (zvi ((j + 1)))], ⟨rfl, rfl, rfl, rfl, rfl, rfl, rfl, rfl⟩, i, (j + 1), rfl, rfl, rfl, rfl, rfl, rfl, (by omega), ?_, (fun c j h0 => ((p77bfr c j (by omega)).trans ((fr c j (by omega)).trans rfl)))⟩
        · first
          | (have w9 := (p48hv.resolve_right (fun w => by have := w.1; omega)).2
             rw [p31hv, p38hv, p45hv] at w9
             exact zCs_a p77hS2 hf2 hf3 hf4 (fun c hc => by
               obtain ⟨t, h1, h2, h3⟩ := cOn hc
               have gi := (gt i (by omega)).1
               rw [← h3]
               exact cSp_tt h1 (by omega) (by omega) (by omega) (by have := w9.1; omega) w9.2.1 w9.2.2) (fun x y q => dSp_a (by have := (gt i (by omega)).1; omega) q))
          | (refine zCs_n hQ1 (fun x y q => jCl_e (dSp_n (fun k => ?_) q))
             have w9 := (p48hv.resolve_left (fun w => by have := w.1; omega)).2
             rw [p31hv, p38hv, p45hv] at w9
             exact w9 k))
