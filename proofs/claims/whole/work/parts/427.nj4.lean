/-! nj4 -/
def T_J_was : ZT := fun args I L R S Q => ∃ (k : Nat) (n : Int), args = [zvr k, zvi n] ∧ (zDy zT18 zF18 k R S) ∧ (∃ j0 : Nat, j0 < 960 ∧ I (k + 20) j0 = n) ∧ (r32 n) ∧ ∀ (v : Int), (v = 0 ∨ v = 1) → Q (some (zvi (v))) I L R S
theorem sn_J_was : ZSnd 1 18 35 T_J_was := ZSnd.loops (zT18_35 0) (by
  rintro args I L R S Q hz ⟨k, n, rfl, hd, hj, hr, hQ⟩
  have h5 := hd.1
  obtain ⟨j0, hj1, hj2⟩ := hj
  refine ⟨[2, 38], fun nM tM lsM stM I1 L1 R1 S1 => match tM with
      | 2 => ∃ (m : Nat), nM = (2, (961 - m), 0) ∧ lsM = [some (zvr (k)), some (zvi (n)), some (zvi (m)), none, none, none] ∧ stM = [] ∧ I1 = I ∧ L1 = L ∧ R1 = R ∧ S1 = S ∧ (m ≤ j0)
      | 38 => ∃ (m : Nat) (old : Int) (u : Int), nM = (1, (961 - m), 0) ∧ lsM = [some (zvr (k)), some (zvi (n)), none, some (zvi (old)), some (zvi (u)), some (zvi (m))] ∧ stM = [] ∧ I1 = I ∧ L1 = L ∧ R1 = R ∧ S1 = S ∧ (m ≤ 960) ∧ (u = 0 ∨ u = 1) ∧ (r32 old)
      | _ => False, rfl, ?_, ⟨?_, ?_, True.intro⟩⟩
  · refine ⟨(2, (961 - (0 : Nat)), 0), [some (zvr (k)), some (zvi (n)), some (zvi ((0 : Nat))), none, none, none], ⟨rfl, rfl, rfl, rfl⟩, 0, rfl, rfl, rfl, rfl, rfl, rfl, rfl, (by omega)⟩
  · rintro nM lsM stM I1 L1 R1 S1 hz1 ⟨m, rfl, rfl, rfl, rfl, rfl, rfl, rfl, hm⟩
    refine And.intro (zDX hd 0 rfl) (zrdR (v := some (k + 20)) (zDR hd 19 rfl) ?_)
    refine And.intro (zDP hd 20 rfl rfl (by omega) (by omega)) (fun v7 e7 r7 => ?_)
    have f7 : v7 = I1 (k + 20) m := (e7.trans (congrArg (I1 (k + 20)) (by omega)))
    have f7b : v7 = n ∨ m + 1 ≤ j0 := (by by_cases q : m = j0; rw [q] at f7; omega; omega)
    refine And.intro ⟨r7, (by omega)⟩ ⟨fun h9 => ?_, fun h9 => ?_⟩
    · refine And.intro (zDX hd 0 rfl) (zrdR (v := some (k + 21)) (zDR hd 20 rfl) ?_)
      refine And.intro (zDP hd 21 rfl rfl (by omega) (by omega)) (fun v23 e23 r23 => ?_)
      refine And.intro ⟨r23, (zRb rfl)⟩ ⟨fun h27 => ?_, fun h27 => ?_⟩
      · refine ⟨(1, (961 - (0 : Nat)), 0), zlt6 (by omega), [some (zvr (k)), some (zvi (n)), none, some (zvi (v23)), some (zvi ((1 : Int))), some (zvi ((0 : Nat)))], ⟨rfl, rfl, rfl, rfl, rfl, rfl⟩, 0, v23, 1, rfl, rfl, rfl, rfl, rfl, rfl, rfl, (by omega), (Or.inr rfl), (by omega)⟩
      · refine And.intro (Or.inl rfl) ?_
        refine hQ _ (by first | exact Or.inl rfl | exact hu)
    · refine ⟨(2, (961 - (m + 1)), 0), zlt6 (by omega), [some (zvr (k)), some (zvi (n)), some (zvi ((m + 1))), none, none, none], ⟨rfl, rfl, rfl, rfl⟩, (m + 1), rfl, rfl, rfl, rfl, rfl, rfl, rfl, (by omega)⟩
  · rintro nM lsM stM I1 L1 R1 S1 hz1 ⟨m, old, u, rfl, rfl, rfl, rfl, rfl, rfl, rfl, hm, hu, ho⟩
    refine And.intro ⟨(by omega), (zRb rfl)⟩ ⟨fun h43 => ?_, fun h43 => ?_⟩
    · refine And.intro (by omega) ?_
      refine hQ _ (by first | exact Or.inl rfl | exact hu)
    · refine And.intro (by omega) ⟨fun h48 => ?_, fun h48 => ?_⟩
      · refine ⟨(1, (961 - (m + 1)), 0), zlt6 (by omega), [some (zvr (k)), some (zvi (n)), none, some (zvi (old)), some (zvi ((0 : Int))), some (zvi ((m + 1)))], ⟨rfl, rfl, rfl, rfl, rfl, rfl⟩, (m + 1), old, 0, rfl, rfl, rfl, rfl, rfl, rfl, rfl, (by omega), (by first | exact Or.inl rfl | exact Or.inr rfl), (by omega)⟩
      · refine And.intro (zDX hd 0 rfl) (zrdR (v := some (k + 20)) (zDR hd 19 rfl) ?_)
        refine And.intro (zDP hd 20 rfl rfl (by omega) (by omega)) (fun v57 e57 r57 => ?_)
        refine And.intro ⟨r57, (by omega)⟩ ⟨fun h59 => ?_, fun h59 => ?_⟩
        · refine And.intro (zDX hd 0 rfl) (zrdR (v := some (k + 21)) (zDR hd 20 rfl) ?_)
          refine And.intro (zDP hd 21 rfl rfl (by omega) (by omega)) (fun v73 e73 r73 => ?_)
          refine And.intro ⟨r73, (by omega)⟩ ⟨fun h75 => ?_, fun h75 => ?_⟩
          · refine And.intro ⟨(zRb rfl), (zRb rfl)⟩ (zbf rfl ?_)
            refine ⟨(1, (961 - (m + 1)), 0), zlt6 (by omega), [some (zvr (k)), some (zvi (n)), none, some (zvi (old)), some (zvi ((1 : Int))), some (zvi ((m + 1)))], ⟨rfl, rfl, rfl, rfl, rfl, rfl⟩, (m + 1), old, 1, rfl, rfl, rfl, rfl, rfl, rfl, rfl, (by omega), (by first | exact Or.inl rfl | exact Or.inr rfl), (by omega)⟩
          · refine And.intro ⟨(zRb rfl), (zRb rfl)⟩ (zbt rfl ?_)
            refine ⟨(1, (961 - (m + 1)), 0), zlt6 (by omega), [some (zvr (k)), some (zvi (n)), none, some (zvi (old)), some (zvi ((0 : Int))), some (zvi ((m + 1)))], ⟨rfl, rfl, rfl, rfl, rfl, rfl⟩, (m + 1), old, 0, rfl, rfl, rfl, rfl, rfl, rfl, rfl, (by omega), (by first | exact Or.inl rfl | exact Or.inr rfl), (by omega)⟩
        · refine And.intro (zDX hd 0 rfl) (zrdR (v := some (k + 21)) (zDR hd 20 rfl) ?_)
          refine And.intro (zDP hd 21 rfl rfl (by omega) (by omega)) (fun v73 e73 r73 => ?_)
          refine And.intro ⟨r73, (by omega)⟩ ⟨fun h75 => ?_, fun h75 => ?_⟩
          · refine And.intro ⟨(zRb rfl), (zRb rfl)⟩ (zbt rfl ?_)
            refine ⟨(1, (961 - (m + 1)), 0), zlt6 (by omega), [some (zvr (k)), some (zvi (n)), none, some (zvi (old)), some (zvi ((0 : Int))), some (zvi ((m + 1)))], ⟨rfl, rfl, rfl, rfl, rfl, rfl⟩, (m + 1), old, 0, rfl, rfl, rfl, rfl, rfl, rfl, rfl, (by omega), (by first | exact Or.inl rfl | exact Or.inr rfl), (by omega)⟩
          · refine And.intro ⟨(zRb rfl), (zRb rfl)⟩ (zbf rfl ?_)
            refine ⟨(1, (961 - (m + 1)), 0), zlt6 (by omega), [some (zvr (k)), some (zvi (n)), none, some (zvi (old)), some (zvi ((1 : Int))), some (zvi ((m + 1)))], ⟨rfl, rfl, rfl, rfl, rfl, rfl⟩, (m + 1), old, 1, rfl, rfl, rfl, rfl, rfl, rfl, rfl, (by omega), (by first | exact Or.inl rfl | exact Or.inr rfl), (by omega)⟩)
def T_J_anew : ZT := fun args I L R S Q => ∃ (k : Nat) (d : JdS), args = [zvr k] ∧ (zDy zT18 zF18 k R S) ∧ (zNJ k d I L) ∧ (jGd d) ∧ ∀ (I' : ZI), (zNJ k d I' L) → (zJN k d I') → (∀ c j : Nat, ¬ (c = k ∧ j = 29) → ¬ (c = k ∧ j = 31) → ¬ (c = k ∧ j = 32) → ¬ c = k + 18 → ¬ c = k + 19 → ¬ c = k + 20 → ¬ c = k + 21 → ¬ c = k + 22 → I' c j = I c j) → Q none I' L R S
theorem sn_J_anew : ZSnd 6 18 0 T_J_anew := ZSnd.loops (zT18_0 5) (by
  rintro args I L R S Q hz ⟨k, d, rfl, hd, hNJ, hJG, hQ⟩
  have h5 := hd.1
  obtain ⟨⟨n1, n2, n3, n4, n5, n6, n7⟩, nS, nW, nD, nJ, nL, nT, nO, nP, nR⟩ := id hNJ
  obtain ⟨⟨g1, g2, g3, g4, g5, g6⟩, gs, gw, gj, gl, gp, gt⟩ := id hJG
  refine ⟨[2, 58], fun nM tM lsM stM I1 L1 R1 S1 => match tM with
      | 2 => ∃ (m : Nat), nM = (2, (961 - m), 0) ∧ lsM = [some (zvr (k)), some (zvi (m))] ∧ stM = [] ∧ L1 = L ∧ R1 = R ∧ S1 = S ∧ (m ≤ 960) ∧ (∀ c j : Nat, ¬ (c = k ∧ j = 29) → ¬ (c = k ∧ j = 31) → ¬ (c = k ∧ j = 32) → ¬ c = k + 18 → ¬ c = k + 19 → ¬ c = k + 20 → ¬ c = k + 21 → ¬ c = k + 22 → I1 c j = I c j)
      | 58 => ∃ (m : Nat), nM = (1, (961 - m), 0) ∧ lsM = [some (zvr (k)), some (zvi (m))] ∧ stM = [] ∧ L1 = L ∧ R1 = R ∧ S1 = S ∧ (m ≤ 960) ∧ (zJN k d I1) ∧ (∀ c j : Nat, ¬ (c = k ∧ j = 29) → ¬ (c = k ∧ j = 31) → ¬ (c = k ∧ j = 32) → ¬ c = k + 18 → ¬ c = k + 19 → ¬ c = k + 20 → ¬ c = k + 21 → ¬ c = k + 22 → I1 c j = I c j)
      | _ => False, rfl, ?_, ⟨?_, ?_, True.intro⟩⟩
  · refine ⟨(2, (961 - (0 : Nat)), 0), [some (zvr (k)), some (zvi ((0 : Nat)))], ⟨rfl, rfl, rfl⟩, 0, rfl, rfl, rfl, rfl, rfl, rfl, (by omega), (fun c j h0 h1 h2 h3 h4 h5 h6 h7 => rfl)⟩
  · rintro nM lsM stM I1 L1 R1 S1 hz1 ⟨m, rfl, rfl, rfl, rfl, rfl, rfl, hm, fr⟩
    refine And.intro ⟨(by omega), (zRb rfl)⟩ ⟨fun h6 => ?_, fun h6 => ?_⟩
    · refine And.intro ⟨(zDX hd 0 rfl), (Or.inr rfl)⟩ ?_
      refine And.intro (zDX hd 0 rfl) ⟨_, sn_J_all.up (by decide), ?_⟩
      refine ⟨k, d, rfl, hd, (zNJ_fr hNJ (fun c j h => zxcj (by omega) (fr c j (by omega) (by omega) (by omega) (by omega) (by omega) (by omega) (by omega) (by omega))) (fun c j h => rfl)), (by first | exact hJG | (clear hQ; grind [xu])), ?_⟩
      intro I44o p44hJF2 p44bfr
      refine And.intro (zDX hd 0 rfl) ⟨_, sn_J_num.up (by decide), ?_⟩
      refine ⟨k, d, rfl, hd, (zNJ_fr hNJ (fun c j h => (p44bfr c j (by omega)).trans (zxcj (by omega) (fr c j (by omega) (by omega) (by omega) (by omega) (by omega) (by omega) (by omega) (by omega)))) (fun c j h => rfl)), (by first | exact hJG | (clear hQ; grind [xu])), p44hJF2, ?_⟩
      intro I48o p48hJN2 p48bfr
      refine And.intro (zDX hd 0 rfl) ⟨_, (zWi (zRb rfl)), ?_⟩
      refine ⟨(1, (961 - (0 : Nat)), 0), zlt6 (by omega), [some (zvr (k)), some (zvi ((0 : Nat)))], ⟨rfl, rfl, rfl⟩, 0, rfl, rfl, rfl, rfl, rfl, rfl, (by omega), (zJN_fr p48hJN2 (fun c j h => zxcj (by omega) rfl)), (fun c j h0 h1 h2 h3 h4 h5 h6 h7 => (zxcj h1 ((p48bfr c j (by omega) (by omega) (by omega)).trans ((p44bfr c j (by omega)).trans (zxcj h2 ((fr c j (by omega) (by omega) (by omega) (by omega) (by omega) (by omega) (by omega) (by omega)).trans rfl))))))⟩
    · refine And.intro (zDX hd 0 rfl) (zrdR (v := some (k + 21)) (zDR hd 20 rfl) ?_)
      refine And.intro (zDX hd 0 rfl) (fun v15 e15 r15 => ?_)
      refine And.intro r15 ⟨fun h18 => ?_, fun h18 => ?_⟩
      · refine And.intro ⟨(by show 40 ≤ _; omega), (zDP hd 21 rfl rfl (by omega) (by omega))⟩ ⟨_, (zWi (zRb rfl)), ?_⟩
        refine ⟨(2, (961 - (m + 1)), 0), zlt6 (by omega), [some (zvr (k)), some (zvi ((m + 1)))], ⟨rfl, rfl, rfl⟩, (m + 1), rfl, rfl, rfl, rfl, rfl, rfl, (by omega), (fun c j h0 h1 h2 h3 h4 h5 h6 h7 => (zxu h6 ((fr c j (by omega) (by omega) (by omega) (by omega) (by omega) (by omega) (by omega) (by omega)).trans rfl)))⟩
      · refine And.intro (zDX hd 0 rfl) (zrdR (v := some (k + 20)) (zDR hd 19 rfl) ?_)
        refine And.intro (zDP hd 20 rfl rfl (by omega) (by omega)) (fun v26 e26 r26 => ?_)
        refine And.intro ⟨(by show 40 ≤ _; omega), (zDP hd 21 rfl rfl (by omega) (by omega))⟩ ⟨_, (zWi r26), ?_⟩
        refine ⟨(2, (961 - (m + 1)), 0), zlt6 (by omega), [some (zvr (k)), some (zvi ((m + 1)))], ⟨rfl, rfl, rfl⟩, (m + 1), rfl, rfl, rfl, rfl, rfl, rfl, (by omega), (fun c j h0 h1 h2 h3 h4 h5 h6 h7 => (zxu h6 ((fr c j (by omega) (by omega) (by omega) (by omega) (by omega) (by omega) (by omega) (by omega)).trans rfl)))⟩
  · rintro nM lsM stM I1 L1 R1 S1 hz1 ⟨m, rfl, rfl, rfl, rfl, rfl, rfl, hm, hJ1, fr⟩
    have hzc := zct_le (jFst d) 960
    have hct : I1 k 29 = zct (jFst d) 960 := by obtain ⟨rt, w1, w2, w3⟩ := id hJ1; exact w3.1
    refine And.intro (zDX hd 0 rfl) (fun v60 e60 r60 => ?_)
    have f60 : v60 = zct (jFst d) 960 := (e60.trans hct)
    refine And.intro ⟨(by omega), r60⟩ ⟨fun h63 => ?_, fun h63 => ?_⟩
    · refine hQ _ (zNJ_fr hNJ (fun c j h => fr c j (by omega) (by omega) (by omega) (by omega) (by omega) (by omega) (by omega) (by omega)) (fun c j h => rfl)) hJ1 (fun c j h0 h1 h2 h3 h4 h5 h6 h7 => ((fr c j (by omega) (by omega) (by omega) (by omega) (by omega) (by omega) (by omega) (by omega)).trans rfl))
    · refine And.intro (zDX hd 0 rfl) (zrdR (v := some (k + 22)) (zDR hd 21 rfl) ?_)
      refine And.intro (zDX hd 0 rfl) ⟨_, sn_J_was.up (by decide), ?_⟩
      refine ⟨k, (m : Int), rfl, hd, (by obtain ⟨rt, w1, w2, w3⟩ := id hJ1; obtain ⟨i, i1, i2, i3⟩ := jNo_ex (d := d) (m := m) (n := 960) (by omega); exact ⟨16 * (i / 16) + jtt d i, (jNd_lt hJG i2.1).2.2.1, (w3.2.2.1 i i1 i2.1).trans (by omega)⟩), (by omega), ?_⟩
      intro v73o p73hv
      refine And.intro (by omega) ⟨fun h76 => ?_, fun h76 => ?_⟩
      · refine And.intro ⟨(by show 40 ≤ _; omega), Or.inr ⟨(zDP hd 22 rfl rfl (by omega) (by omega)), (Or.inl rfl)⟩⟩ ?_
        refine And.intro (zDX hd 0 rfl) (fun v87 e87 r87 => ?_)
        refine And.intro (zDX hd 0 rfl) (zrdR (v := some (k + 22)) (zDR hd 21 rfl) ?_)
        refine And.intro (Or.inr (zDP hd 22 rfl rfl (by omega) (by omega))) (zrd (v := 0) zxe ?_)
        refine And.intro (zRb rfl) (zbt rfl ?_)
        refine And.intro (zDX hd 0 rfl) ⟨_, zWt _, ?_⟩
        refine ⟨(1, (961 - (m + 1)), 0), zlt6 (by omega), [some (zvr (k)), some (zvi ((m + 1)))], ⟨rfl, rfl, rfl⟩, (m + 1), rfl, rfl, rfl, rfl, rfl, rfl, (by omega), (zJN_fr hJ1 (fun c j h => by first | exact zxcj (by omega) (zxu (by omega) rfl) | exact zxcj (by omega) (zxcj (by omega) rfl))), (fun c j h0 h1 h2 h3 h4 h5 h6 h7 => (zxcj h1 (zxu h7 ((fr c j (by omega) (by omega) (by omega) (by omega) (by omega) (by omega) (by omega) (by omega)).trans rfl))))⟩
      · refine And.intro ⟨(by show 40 ≤ _; omega), Or.inr ⟨(zDP hd 22 rfl rfl (by omega) (by omega)), (Or.inr rfl)⟩⟩ ?_
        refine And.intro (zDX hd 0 rfl) (fun v87 e87 r87 => ?_)
        refine And.intro (zDX hd 0 rfl) (zrdR (v := some (k + 22)) (zDR hd 21 rfl) ?_)
        refine And.intro (Or.inr (zDP hd 22 rfl rfl (by omega) (by omega))) (zrd (v := 1) zxe ?_)
        refine And.intro (zRb rfl) (zbf rfl ?_)
        refine And.intro (zDX hd 0 rfl) ⟨_, zWt _, ?_⟩
        refine ⟨(1, (961 - (m + 1)), 0), zlt6 (by omega), [some (zvr (k)), some (zvi ((m + 1)))], ⟨rfl, rfl, rfl⟩, (m + 1), rfl, rfl, rfl, rfl, rfl, rfl, (by omega), (zJN_fr hJ1 (fun c j h => by first | exact zxcj (by omega) (zxu (by omega) rfl) | exact zxcj (by omega) (zxcj (by omega) rfl))), (fun c j h0 h1 h2 h3 h4 h5 h6 h7 => (zxcj h1 (zxu h7 ((fr c j (by omega) (by omega) (by omega) (by omega) (by omega) (by omega) (by omega) (by omega)).trans rfl))))⟩)
def T_J_wire : ZT := fun args I L R S Q => ∃ (k : Nat) (d : JdS) (s : Int) (x : Int) (y : Int) (x2 : Int) (y2 : Int), args = [zvr k, zvi s, zvl x, zvl y, zvl x2, zvl y2] ∧ (zDy zT18 zF18 k R S) ∧ (zNJ k d I L) ∧ (jGd d) ∧ (0 ≤ s ∧ s < dns d ∧ dbs d s.toNat = s) ∧ (jFar x ∧ jFar y ∧ jFar x2 ∧ jFar y2) ∧ ∀ (v : Int) (I' : ZI) (L' : ZI), (zNJ k (djWs d s x y x2 y2) I' L') → (jGd (djWs d s x y x2 y2)) → (zJN k d I → zJN k (djWs d s x y x2 y2) I') → (∀ c j : Nat, ¬ (c = k ∧ j = 0) → ¬ (c = k ∧ j = 4) → ¬ c = k + 3 → ¬ (c = k ∧ j = 29) → ¬ (c = k ∧ j = 31) → ¬ (c = k ∧ j = 32) → ¬ c = k + 18 → ¬ c = k + 19 → ¬ c = k + 20 → ¬ c = k + 21 → ¬ c = k + 22 → I' c j = I c j) → (∀ c j : Nat, ¬ c = k + 4 → L' c j = L c j) → Q (some (zvi (v))) I' L' R S
theorem sn_J_wire : ZSnd 7 18 36 T_J_wire := ZSnd.of (zT18_36 6) (by
  rintro args I L R S Q hz ⟨k, d, s, x, y, x2, y2, rfl, hd, hNJ, hJG, hs, hf_, hQ⟩
  have h5 := hd.1
  obtain ⟨⟨n1, n2, n3, n4, n5, n6, n7⟩, nS, nW, nD, nJ, nL, nT, nO, nP, nR⟩ := id hNJ
  obtain ⟨⟨g1, g2, g3, g4, g5, g6⟩, gs, gw, gj, gl, gp, gt⟩ := id hJG
  have hf_x : -1000000000 ≤ x ∧ x ≤ 1000000000 := hf_.1
  have hf_y : -1000000000 ≤ y ∧ y ≤ 1000000000 := hf_.2.1
  have hf_x2 : -1000000000 ≤ x2 ∧ x2 ≤ 1000000000 := hf_.2.2.1
  have hf_y2 : -1000000000 ≤ y2 ∧ y2 ≤ 1000000000 := hf_.2.2.2
  refine And.intro rfl ?_
  refine Exists.intro _ (And.intro (zinl_ok (zT18_10 5)) (And.intro rfl ?_))
  refine ⟨_, _, ⟨zW6i (by omega), zW6i (zRL rfl)⟩, fun z4_6 c4_6 => ?_⟩
  refine And.intro c4_6.2.2 ⟨(fun h5_6 => False.elim (by omega)), fun h5_6 => ?_⟩
  refine ⟨_, _, ⟨zW6i (by omega), zW6i (zRL rfl)⟩, fun z12_6 c12_6 => ?_⟩
  refine And.intro c12_6.2.2 ⟨(fun h13_6 => False.elim (by omega)), fun h13_6 => ?_⟩
  refine ⟨_, _, ⟨zW6i (by omega), zW6i (zRL rfl)⟩, fun z20_6 c20_6 => ?_⟩
  refine And.intro c20_6.2.2 ⟨(fun h21_6 => False.elim (by omega)), fun h21_6 => ?_⟩
  refine ⟨_, _, ⟨zW6i (by omega), zW6i (zRL rfl)⟩, fun z28_6 c28_6 => ?_⟩
  refine And.intro c28_6.2.2 ⟨(fun h29_6 => False.elim (by omega)), fun h29_6 => ?_⟩
  refine And.intro (Or.inr rfl) ?_
  refine And.intro (zRb rfl) (zbf rfl ?_)
  refine Exists.intro _ (And.intro (zinl_ok (zT18_10 5)) (And.intro rfl ?_))
  refine ⟨_, _, ⟨zW6i (by omega), zW6i (zRL rfl)⟩, fun z4_16 c4_16 => ?_⟩
  refine And.intro c4_16.2.2 ⟨(fun h5_16 => False.elim (by omega)), fun h5_16 => ?_⟩
  refine ⟨_, _, ⟨zW6i (by omega), zW6i (zRL rfl)⟩, fun z12_16 c12_16 => ?_⟩
  refine And.intro c12_16.2.2 ⟨(fun h13_16 => False.elim (by omega)), fun h13_16 => ?_⟩
  refine ⟨_, _, ⟨zW6i (by omega), zW6i (zRL rfl)⟩, fun z20_16 c20_16 => ?_⟩
  refine And.intro c20_16.2.2 ⟨(fun h21_16 => False.elim (by omega)), fun h21_16 => ?_⟩
  refine ⟨_, _, ⟨zW6i (by omega), zW6i (zRL rfl)⟩, fun z28_16 c28_16 => ?_⟩
  refine And.intro c28_16.2.2 ⟨(fun h29_16 => False.elim (by omega)), fun h29_16 => ?_⟩
  refine And.intro (Or.inr rfl) ?_
  refine And.intro (zRb rfl) (zbf rfl ?_)
  refine ⟨_, _, ⟨zW6i (by omega), zW6i (by omega)⟩, fun z25 c25 => ?_⟩
  refine And.intro c25.2.2 ⟨fun h26 => ?_, fun h26 => ?_⟩
  · refine And.intro (zDX hd 0 rfl) (Exists.intro _ (And.intro (zinl_ok (zT18_31 5)) (And.intro rfl ?_)))
    refine And.intro (zDX hd 0 rfl) (Exists.intro _ (And.intro (zinl_ok (zT18_11 4)) (And.intro rfl ?_)))
    refine And.intro (by omega) ⟨(fun h1_42_2 => False.elim (by omega)), fun h1_42_2 => ?_⟩
    refine And.intro (zDX hd 0 rfl) (zrd (v := (dns d)) n1 ?_)
    refine And.intro ⟨(by omega), (by omega)⟩ ⟨(fun h9_42_2 => False.elim (by omega)), fun h9_42_2 => ?_⟩
    refine And.intro (Or.inr rfl) ?_
    refine And.intro (zRb rfl) (zbt rfl ?_)
    refine And.intro (zDX hd 0 rfl) (zrdR (v := some (k + 2)) (zDR hd 1 rfl) ?_)
    refine And.intro (zDP hd 2 rfl rfl (by omega) (by omega)) (fun v15_42 e15_42 r15_42 => ?_)
    have f15_42 : v15_42 = dbs d s.toNat := (e15_42.trans ((congrArg (I (k + 2)) (by omega)).trans (nS s.toNat (by omega)).2))
    have f15_42b : v15_42 = s := (by omega)
    refine And.intro ⟨r15_42, (by omega)⟩ ⟨fun h17_42 => ?_, (fun h17_42 => False.elim (by omega))⟩
    refine And.intro (zRb rfl) (zbf rfl ?_)
    refine And.intro (zDX hd 0 rfl) ⟨_, (zWi (zRb rfl)), ?_⟩
    refine And.intro (zDX hd 0 rfl) (zrd (v := 0) zxe ?_)
    refine And.intro (zRb rfl) (zbt rfl ?_)
    refine And.intro (zDX hd 0 rfl) (zrd (v := (dnw d)) (zxs (by decide) n2) ?_)
    refine And.intro ⟨(by omega), (zRb rfl)⟩ ⟨fun h63 => ?_, fun h63 => ?_⟩
    · refine And.intro (zDX hd 0 rfl) (zrdR (v := some (k + 3)) (zDR hd 2 rfl) ?_)
      refine And.intro (zDX hd 0 rfl) (zrd (v := (dnw d)) (zxs (by decide) n2) ?_)
      refine And.intro ⟨(by show 40 ≤ _; omega), (zDP hd 3 rfl rfl (by omega) (by omega))⟩ ⟨_, (zWi (by omega)), ?_⟩
      refine And.intro (zDX hd 0 rfl) (zrdR (v := some (k + 4)) (zDR hd 3 rfl) ?_)
      refine And.intro (zDX hd 0 rfl) (zrd (v := (dnw d)) (zxu (by omega) (zxs (by decide) n2)) ?_)
      refine And.intro ⟨(by show 40 ≤ _; omega), (zDP hd 4 rfl rfl (by omega) (by omega))⟩ ⟨_, zW6i (by omega), ?_⟩
      refine And.intro (zDX hd 0 rfl) (zrdR (v := some (k + 4)) (zDR hd 3 rfl) ?_)
      refine And.intro (zDX hd 0 rfl) (zrd (v := (dnw d)) (zxu (by omega) (zxs (by decide) n2)) ?_)
      refine And.intro ⟨(by show 40 ≤ _; omega), (zDP hd 4 rfl rfl (by omega) (by omega))⟩ ⟨_, zW6i (by omega), ?_⟩
      refine And.intro (zDX hd 0 rfl) (zrdR (v := some (k + 4)) (zDR hd 3 rfl) ?_)
      refine And.intro (zDX hd 0 rfl) (zrd (v := (dnw d)) (zxu (by omega) (zxs (by decide) n2)) ?_)
      refine And.intro ⟨(by show 40 ≤ _; omega), (zDP hd 4 rfl rfl (by omega) (by omega))⟩ ⟨_, zW6i (by omega), ?_⟩
      refine And.intro (zDX hd 0 rfl) (zrdR (v := some (k + 4)) (zDR hd 3 rfl) ?_)
      refine And.intro (zDX hd 0 rfl) (zrd (v := (dnw d)) (zxu (by omega) (zxs (by decide) n2)) ?_)
      refine And.intro ⟨(by show 40 ≤ _; omega), (zDP hd 4 rfl rfl (by omega) (by omega))⟩ ⟨_, zW6i (by omega), ?_⟩
      refine And.intro (zDX hd 0 rfl) (zrd (v := (dnw d)) (zxu (by omega) (zxs (by decide) n2)) ?_)
      refine And.intro (zDX hd 0 rfl) ⟨_, (zWi (by omega)), ?_⟩
      refine And.intro (zDX hd 0 rfl) ⟨_, sn_J_anew.up (by decide), ?_⟩
      refine ⟨k, (djW d s x y x2 y2), rfl, hd, (zNJ_W hNJ (zxe.trans (by omega)) ⟨zxu (by omega) (zxe' (by omega)), zxs (by omega) (zxs (by omega) (zxs (by omega) (zxe' (by omega)))), zxs (by omega) (zxs (by omega) (zxe' (by omega))), zxs (by omega) (zxe' (by omega)), zxe' (by omega)⟩ ⟨fun w hw => zxu (by omega) (zxs (by omega) (zxu (by omega) rfl)), fun j hj => zxs (by omega) (zxs (by omega) (zxs (by omega) (zxs (by omega) rfl)))⟩ (fun c j h => zxcj (by omega) (zxu (by omega) (zxcj (by omega) rfl))) (fun c j h => zxu (by omega) (zxu (by omega) (zxu (by omega) (zxu (by omega) rfl))))), (jGd_W hJG ⟨hs, hf_⟩ (by omega)), ?_⟩
      intro I146o p146hNJ2 p146bhJN2 p146bbfr
      refine And.intro (zDX hd 0 rfl) (zrd (v := ((dnw d) + 1)) ((p146bbfr k 4 (by omega) (by omega) (by omega) (by omega) (by omega) (by omega) (by omega) (by omega)).trans zxe) ?_)
      refine hQ _ _ _ ?_ ?_ ?_ (fun c j h0 h1 h2 h3 h4 h5 h6 h7 h8 h9 h10 => ((p146bbfr c j (by omega) (by omega) (by omega) (by omega) (by omega) (by omega) (by omega) (by omega)).trans (zxcj h1 (zxu h2 (zxcj h0 rfl))))) (fun c j h0 => (zxu h0 (zxu h0 (zxu h0 (zxu h0 rfl)))))
      · first
        | (rw [show djWs d s x y x2 y2 = d from if_neg (by omega)]
           first
           | exact (zNJ_fr hNJ (fun c j h => zxcj (by omega) rfl) (fun c j h => rfl))
           | exact hJG
           | exact (fun hn => zJN_fr hn (fun c j h => zxcj (by omega) rfl)))
        | (rw [show djWs d s x y x2 y2 = djW d s x y x2 y2 from if_pos ⟨by omega, by omega⟩]
           exact p146hNJ2)
      · first
        | (rw [show djWs d s x y x2 y2 = d from if_neg (by omega)]
           first
           | exact (zNJ_fr hNJ (fun c j h => zxcj (by omega) rfl) (fun c j h => rfl))
           | exact hJG
           | exact (fun hn => zJN_fr hn (fun c j h => zxcj (by omega) rfl)))
        | (rw [show djWs d s x y x2 y2 = djW d s x y x2 y2 from if_pos ⟨by omega, by omega⟩]
           exact jGd_W hJG ⟨hs, hf_⟩ (by omega))
      · first
        | (rw [show djWs d s x y x2 y2 = d from if_neg (by omega)]
           first
           | exact (zNJ_fr hNJ (fun c j h => zxcj (by omega) rfl) (fun c j h => rfl))
           | exact hJG
           | exact (fun hn => zJN_fr hn (fun c j h => zxcj (by omega) rfl)))
        | (rw [show djWs d s x y x2 y2 = djW d s x y x2 y2 from if_pos ⟨by omega, by omega⟩]
           exact fun _ => p146bhJN2)
    · refine hQ _ _ _ ?_ ?_ ?_ (fun c j h0 h1 h2 h3 h4 h5 h6 h7 h8 h9 h10 => (zxcj h0 rfl)) (fun c j h0 => rfl)
      · first
        | (rw [show djWs d s x y x2 y2 = d from if_neg (by omega)]
           first
           | exact (zNJ_fr hNJ (fun c j h => zxcj (by omega) rfl) (fun c j h => rfl))
           | exact hJG
           | exact (fun hn => zJN_fr hn (fun c j h => zxcj (by omega) rfl)))
        | (rw [show djWs d s x y x2 y2 = djW d s x y x2 y2 from if_pos ⟨by omega, by omega⟩]
           exact p146hNJ2)
      · first
        | (rw [show djWs d s x y x2 y2 = d from if_neg (by omega)]
           first
           | exact (zNJ_fr hNJ (fun c j h => zxcj (by omega) rfl) (fun c j h => rfl))
           | exact hJG
           | exact (fun hn => zJN_fr hn (fun c j h => zxcj (by omega) rfl)))
        | (rw [show djWs d s x y x2 y2 = djW d s x y x2 y2 from if_pos ⟨by omega, by omega⟩]
           exact jGd_W hJG ⟨hs, hf_⟩ (by omega))
      · first
        | (rw [show djWs d s x y x2 y2 = d from if_neg (by omega)]
           first
           | exact (zNJ_fr hNJ (fun c j h => zxcj (by omega) rfl) (fun c j h => rfl))
           | exact hJG
           | exact (fun hn => zJN_fr hn (fun c j h => zxcj (by omega) rfl)))
        | (rw [show djWs d s x y x2 y2 = djW d s x y x2 y2 from if_pos ⟨by omega, by omega⟩]
           exact fun _ => p146bhJN2)
  · refine ⟨_, _, ⟨zW6i (by omega), zW6i (by omega)⟩, fun z33 c33 => ?_⟩
    refine And.intro c33.2.2 ⟨fun h34 => ?_, fun h34 => ?_⟩
    · refine And.intro (zDX hd 0 rfl) (Exists.intro _ (And.intro (zinl_ok (zT18_31 5)) (And.intro rfl ?_)))
      refine And.intro (zDX hd 0 rfl) (Exists.intro _ (And.intro (zinl_ok (zT18_11 4)) (And.intro rfl ?_)))
      refine And.intro (by omega) ⟨(fun h1_42_2 => False.elim (by omega)), fun h1_42_2 => ?_⟩
      refine And.intro (zDX hd 0 rfl) (zrd (v := (dns d)) n1 ?_)
      refine And.intro ⟨(by omega), (by omega)⟩ ⟨(fun h9_42_2 => False.elim (by omega)), fun h9_42_2 => ?_⟩
      refine And.intro (Or.inr rfl) ?_
      refine And.intro (zRb rfl) (zbt rfl ?_)
      refine And.intro (zDX hd 0 rfl) (zrdR (v := some (k + 2)) (zDR hd 1 rfl) ?_)
      refine And.intro (zDP hd 2 rfl rfl (by omega) (by omega)) (fun v15_42 e15_42 r15_42 => ?_)
      have f15_42 : v15_42 = dbs d s.toNat := (e15_42.trans ((congrArg (I (k + 2)) (by omega)).trans (nS s.toNat (by omega)).2))
      have f15_42b : v15_42 = s := (by omega)
      refine And.intro ⟨r15_42, (by omega)⟩ ⟨fun h17_42 => ?_, (fun h17_42 => False.elim (by omega))⟩
      refine And.intro (zRb rfl) (zbt rfl ?_)
      refine And.intro (zDX hd 0 rfl) ⟨_, (zWi (zRb rfl)), ?_⟩
      refine And.intro (zDX hd 0 rfl) (zrd (v := 3) zxe ?_)
      refine And.intro (zRb rfl) (zbf rfl ?_)
      refine hQ _ _ _ ?_ ?_ ?_ (fun c j h0 h1 h2 h3 h4 h5 h6 h7 h8 h9 h10 => (zxcj h0 rfl)) (fun c j h0 => rfl)
      · first
        | (rw [show djWs d s x y x2 y2 = d from if_neg (by omega)]
           first
           | exact (zNJ_fr hNJ (fun c j h => zxcj (by omega) rfl) (fun c j h => rfl))
           | exact hJG
           | exact (fun hn => zJN_fr hn (fun c j h => zxcj (by omega) rfl)))
        | (rw [show djWs d s x y x2 y2 = djW d s x y x2 y2 from if_pos ⟨by omega, by omega⟩]
           exact p146hNJ2)
      · first
        | (rw [show djWs d s x y x2 y2 = d from if_neg (by omega)]
           first
           | exact (zNJ_fr hNJ (fun c j h => zxcj (by omega) rfl) (fun c j h => rfl))
           | exact hJG
           | exact (fun hn => zJN_fr hn (fun c j h => zxcj (by omega) rfl)))
        | (rw [show djWs d s x y x2 y2 = djW d s x y x2 y2 from if_pos ⟨by omega, by omega⟩]
           exact jGd_W hJG ⟨hs, hf_⟩ (by omega))
      · first
        | (rw [show djWs d s x y x2 y2 = d from if_neg (by omega)]
           first
           | exact (zNJ_fr hNJ (fun c j h => zxcj (by omega) rfl) (fun c j h => rfl))
           | exact hJG
           | exact (fun hn => zJN_fr hn (fun c j h => zxcj (by omega) rfl)))
        | (rw [show djWs d s x y x2 y2 = djW d s x y x2 y2 from if_pos ⟨by omega, by omega⟩]
           exact fun _ => p146bhJN2)
    · refine And.intro (zDX hd 0 rfl) (Exists.intro _ (And.intro (zinl_ok (zT18_31 5)) (And.intro rfl ?_)))
      refine And.intro (zDX hd 0 rfl) (Exists.intro _ (And.intro (zinl_ok (zT18_11 4)) (And.intro rfl ?_)))
      refine And.intro (by omega) ⟨(fun h1_42_2 => False.elim (by omega)), fun h1_42_2 => ?_⟩
      refine And.intro (zDX hd 0 rfl) (zrd (v := (dns d)) n1 ?_)
      refine And.intro ⟨(by omega), (by omega)⟩ ⟨(fun h9_42_2 => False.elim (by omega)), fun h9_42_2 => ?_⟩
      refine And.intro (Or.inr rfl) ?_
      refine And.intro (zRb rfl) (zbt rfl ?_)
      refine And.intro (zDX hd 0 rfl) (zrdR (v := some (k + 2)) (zDR hd 1 rfl) ?_)
      refine And.intro (zDP hd 2 rfl rfl (by omega) (by omega)) (fun v15_42 e15_42 r15_42 => ?_)
      have f15_42 : v15_42 = dbs d s.toNat := (e15_42.trans ((congrArg (I (k + 2)) (by omega)).trans (nS s.toNat (by omega)).2))
      have f15_42b : v15_42 = s := (by omega)
      refine And.intro ⟨r15_42, (by omega)⟩ ⟨fun h17_42 => ?_, (fun h17_42 => False.elim (by omega))⟩
      refine And.intro (zRb rfl) (zbf rfl ?_)
      refine And.intro (zDX hd 0 rfl) ⟨_, (zWi (zRb rfl)), ?_⟩
      refine And.intro (zDX hd 0 rfl) (zrd (v := 0) zxe ?_)
      refine And.intro (zRb rfl) (zbt rfl ?_)
      refine And.intro (zDX hd 0 rfl) (zrd (v := (dnw d)) (zxs (by decide) n2) ?_)
      refine And.intro ⟨(by omega), (zRb rfl)⟩ ⟨fun h63 => ?_, fun h63 => ?_⟩
      · refine And.intro (zDX hd 0 rfl) (zrdR (v := some (k + 3)) (zDR hd 2 rfl) ?_)
        refine And.intro (zDX hd 0 rfl) (zrd (v := (dnw d)) (zxs (by decide) n2) ?_)
        refine And.intro ⟨(by show 40 ≤ _; omega), (zDP hd 3 rfl rfl (by omega) (by omega))⟩ ⟨_, (zWi (by omega)), ?_⟩
        refine And.intro (zDX hd 0 rfl) (zrdR (v := some (k + 4)) (zDR hd 3 rfl) ?_)
        refine And.intro (zDX hd 0 rfl) (zrd (v := (dnw d)) (zxu (by omega) (zxs (by decide) n2)) ?_)
        refine And.intro ⟨(by show 40 ≤ _; omega), (zDP hd 4 rfl rfl (by omega) (by omega))⟩ ⟨_, zW6i (by omega), ?_⟩
        refine And.intro (zDX hd 0 rfl) (zrdR (v := some (k + 4)) (zDR hd 3 rfl) ?_)
        refine And.intro (zDX hd 0 rfl) (zrd (v := (dnw d)) (zxu (by omega) (zxs (by decide) n2)) ?_)
        refine And.intro ⟨(by show 40 ≤ _; omega), (zDP hd 4 rfl rfl (by omega) (by omega))⟩ ⟨_, zW6i (by omega), ?_⟩
        refine And.intro (zDX hd 0 rfl) (zrdR (v := some (k + 4)) (zDR hd 3 rfl) ?_)
        refine And.intro (zDX hd 0 rfl) (zrd (v := (dnw d)) (zxu (by omega) (zxs (by decide) n2)) ?_)
        refine And.intro ⟨(by show 40 ≤ _; omega), (zDP hd 4 rfl rfl (by omega) (by omega))⟩ ⟨_, zW6i (by omega), ?_⟩
        refine And.intro (zDX hd 0 rfl) (zrdR (v := some (k + 4)) (zDR hd 3 rfl) ?_)
        refine And.intro (zDX hd 0 rfl) (zrd (v := (dnw d)) (zxu (by omega) (zxs (by decide) n2)) ?_)
        refine And.intro ⟨(by show 40 ≤ _; omega), (zDP hd 4 rfl rfl (by omega) (by omega))⟩ ⟨_, zW6i (by omega), ?_⟩
        refine And.intro (zDX hd 0 rfl) (zrd (v := (dnw d)) (zxu (by omega) (zxs (by decide) n2)) ?_)
        refine And.intro (zDX hd 0 rfl) ⟨_, (zWi (by omega)), ?_⟩
        refine And.intro (zDX hd 0 rfl) ⟨_, sn_J_anew.up (by decide), ?_⟩
        refine ⟨k, (djW d s x y x2 y2), rfl, hd, (zNJ_W hNJ (zxe.trans (by omega)) ⟨zxu (by omega) (zxe' (by omega)), zxs (by omega) (zxs (by omega) (zxs (by omega) (zxe' (by omega)))), zxs (by omega) (zxs (by omega) (zxe' (by omega))), zxs (by omega) (zxe' (by omega)), zxe' (by omega)⟩ ⟨fun w hw => zxu (by omega) (zxs (by omega) (zxu (by omega) rfl)), fun j hj => zxs (by omega) (zxs (by omega) (zxs (by omega) (zxs (by omega) rfl)))⟩ (fun c j h => zxcj (by omega) (zxu (by omega) (zxcj (by omega) rfl))) (fun c j h => zxu (by omega) (zxu (by omega) (zxu (by omega) (zxu (by omega) rfl))))), (jGd_W hJG ⟨hs, hf_⟩ (by omega)), ?_⟩
        intro I146o p146hNJ2 p146bhJN2 p146bbfr
        refine And.intro (zDX hd 0 rfl) (zrd (v := ((dnw d) + 1)) ((p146bbfr k 4 (by omega) (by omega) (by omega) (by omega) (by omega) (by omega) (by omega) (by omega)).trans zxe) ?_)
        refine hQ _ _ _ ?_ ?_ ?_ (fun c j h0 h1 h2 h3 h4 h5 h6 h7 h8 h9 h10 => ((p146bbfr c j (by omega) (by omega) (by omega) (by omega) (by omega) (by omega) (by omega) (by omega)).trans (zxcj h1 (zxu h2 (zxcj h0 rfl))))) (fun c j h0 => (zxu h0 (zxu h0 (zxu h0 (zxu h0 rfl)))))
        · first
          | (rw [show djWs d s x y x2 y2 = d from if_neg (by omega)]
             first
             | exact (zNJ_fr hNJ (fun c j h => zxcj (by omega) rfl) (fun c j h => rfl))
             | exact hJG
             | exact (fun hn => zJN_fr hn (fun c j h => zxcj (by omega) rfl)))
          | (rw [show djWs d s x y x2 y2 = djW d s x y x2 y2 from if_pos ⟨by omega, by omega⟩]
             exact p146hNJ2)
        · first
          | (rw [show djWs d s x y x2 y2 = d from if_neg (by omega)]
             first
             | exact (zNJ_fr hNJ (fun c j h => zxcj (by omega) rfl) (fun c j h => rfl))
             | exact hJG
             | exact (fun hn => zJN_fr hn (fun c j h => zxcj (by omega) rfl)))
          | (rw [show djWs d s x y x2 y2 = djW d s x y x2 y2 from if_pos ⟨by omega, by omega⟩]
             exact jGd_W hJG ⟨hs, hf_⟩ (by omega))
        · first
          | (rw [show djWs d s x y x2 y2 = d from if_neg (by omega)]
             first
             | exact (zNJ_fr hNJ (fun c j h => zxcj (by omega) rfl) (fun c j h => rfl))
             | exact hJG
             | exact (fun hn => zJN_fr hn (fun c j h => zxcj (by omega) rfl)))
          | (rw [show djWs d s x y x2 y2 = djW d s x y x2 y2 from if_pos ⟨by omega, by omega⟩]
             exact fun _ => p146bhJN2)
      · refine hQ _ _ _ ?_ ?_ ?_ (fun c j h0 h1 h2 h3 h4 h5 h6 h7 h8 h9 h10 => (zxcj h0 rfl)) (fun c j h0 => rfl)
        · first
          | (rw [show djWs d s x y x2 y2 = d from if_neg (by omega)]
             first
             | exact (zNJ_fr hNJ (fun c j h => zxcj (by omega) rfl) (fun c j h => rfl))
             | exact hJG
             | exact (fun hn => zJN_fr hn (fun c j h => zxcj (by omega) rfl)))
          | (rw [show djWs d s x y x2 y2 = djW d s x y x2 y2 from if_pos ⟨by omega, by omega⟩]
             exact p146hNJ2)
        · first
          | (rw [show djWs d s x y x2 y2 = d from if_neg (by omega)]
             first
             | exact (zNJ_fr hNJ (fun c j h => zxcj (by omega) rfl) (fun c j h => rfl))
             | exact hJG
             | exact (fun hn => zJN_fr hn (fun c j h => zxcj (by omega) rfl)))
          | (rw [show djWs d s x y x2 y2 = djW d s x y x2 y2 from if_pos ⟨by omega, by omega⟩]
             exact jGd_W hJG ⟨hs, hf_⟩ (by omega))
        · first
          | (rw [show djWs d s x y x2 y2 = d from if_neg (by omega)]
             first
             | exact (zNJ_fr hNJ (fun c j h => zxcj (by omega) rfl) (fun c j h => rfl))
             | exact hJG
             | exact (fun hn => zJN_fr hn (fun c j h => zxcj (by omega) rfl)))
          | (rw [show djWs d s x y x2 y2 = djW d s x y x2 y2 from if_pos ⟨by omega, by omega⟩]
             exact fun _ => p146bhJN2))
def T_J_label : ZT := fun args I L R S Q => ∃ (k : Nat) (d : JdS) (s : Int) (x : Int) (y : Int) (n : Int), args = [zvr k, zvi s, zvl x, zvl y, zvi n] ∧ (zDy zT18 zF18 k R S) ∧ (zNJ k d I L) ∧ (jGd d) ∧ (0 ≤ s ∧ s < dns d ∧ dbs d s.toNat = s) ∧ (jFar x ∧ jFar y) ∧ (0 ≤ n ∧ n < 1000) ∧ ∀ (v : Int) (I' : ZI) (L' : ZI), (v = if dnl d < 60 then (dnl d : Int) else -1) → (zNJ k (djLs d s x y n) I' L') → (jGd (djLs d s x y n)) → (zJN k d I → zJN k (djLs d s x y n) I') → (∀ c j : Nat, ¬ (c = k ∧ j = 0) → ¬ (c = k ∧ j = 11) → ¬ c = k + 8 → ¬ c = k + 9 → ¬ (c = k ∧ j = 29) → ¬ (c = k ∧ j = 31) → ¬ (c = k ∧ j = 32) → ¬ c = k + 18 → ¬ c = k + 19 → ¬ c = k + 20 → ¬ c = k + 21 → ¬ c = k + 22 → I' c j = I c j) → (∀ c j : Nat, ¬ c = k + 10 → L' c j = L c j) → Q (some (zvi (v))) I' L' R S
theorem sn_J_label : ZSnd 7 18 19 T_J_label := ZSnd.of (zT18_19 6) (by
  rintro args I L R S Q hz ⟨k, d, s, x, y, n, rfl, hd, hNJ, hJG, hs, hf_, hn, hQ⟩
  have h5 := hd.1
  obtain ⟨⟨n1, n2, n3, n4, n5, n6, n7⟩, nS, nW, nD, nJ, nL, nT, nO, nP, nR⟩ := id hNJ
  obtain ⟨⟨g1, g2, g3, g4, g5, g6⟩, gs, gw, gj, gl, gp, gt⟩ := id hJG
  have hf_x : -1000000000 ≤ x ∧ x ≤ 1000000000 := hf_.1
  have hf_y : -1000000000 ≤ y ∧ y ≤ 1000000000 := hf_.2
  refine And.intro rfl ?_
  refine Exists.intro _ (And.intro (zinl_ok (zT18_10 5)) (And.intro rfl ?_))
  refine ⟨_, _, ⟨zW6i (by omega), zW6i (zRL rfl)⟩, fun z4_6 c4_6 => ?_⟩
  refine And.intro c4_6.2.2 ⟨(fun h5_6 => False.elim (by omega)), fun h5_6 => ?_⟩
  refine ⟨_, _, ⟨zW6i (by omega), zW6i (zRL rfl)⟩, fun z12_6 c12_6 => ?_⟩
  refine And.intro c12_6.2.2 ⟨(fun h13_6 => False.elim (by omega)), fun h13_6 => ?_⟩
  refine ⟨_, _, ⟨zW6i (by omega), zW6i (zRL rfl)⟩, fun z20_6 c20_6 => ?_⟩
  refine And.intro c20_6.2.2 ⟨(fun h21_6 => False.elim (by omega)), fun h21_6 => ?_⟩
  refine ⟨_, _, ⟨zW6i (by omega), zW6i (zRL rfl)⟩, fun z28_6 c28_6 => ?_⟩
  refine And.intro c28_6.2.2 ⟨(fun h29_6 => False.elim (by omega)), fun h29_6 => ?_⟩
  refine And.intro (Or.inr rfl) ?_
  refine And.intro (zRb rfl) (zbf rfl ?_)
  refine Exists.intro _ (And.intro (zinl_ok (zT18_8 5)) (And.intro rfl ?_))
  refine And.intro (by omega) ⟨(fun h1_14 => False.elim (by omega)), fun h1_14 => ?_⟩
  refine And.intro ⟨(by omega), (zRb rfl)⟩ ⟨(fun h8_14 => False.elim (by omega)), fun h8_14 => ?_⟩
  refine And.intro (Or.inr rfl) ?_
  refine And.intro (zRb rfl) (zbf rfl ?_)
  refine And.intro (zDX hd 0 rfl) (Exists.intro _ (And.intro (zinl_ok (zT18_31 5)) (And.intro rfl ?_)))
  refine And.intro (zDX hd 0 rfl) (Exists.intro _ (And.intro (zinl_ok (zT18_11 4)) (And.intro rfl ?_)))
  refine And.intro (by omega) ⟨(fun h1_25_2 => False.elim (by omega)), fun h1_25_2 => ?_⟩
  refine And.intro (zDX hd 0 rfl) (zrd (v := (dns d)) n1 ?_)
  refine And.intro ⟨(by omega), (by omega)⟩ ⟨(fun h9_25_2 => False.elim (by omega)), fun h9_25_2 => ?_⟩
  refine And.intro (Or.inr rfl) ?_
  refine And.intro (zRb rfl) (zbt rfl ?_)
  refine And.intro (zDX hd 0 rfl) (zrdR (v := some (k + 2)) (zDR hd 1 rfl) ?_)
  refine And.intro (zDP hd 2 rfl rfl (by omega) (by omega)) (fun v15_25 e15_25 r15_25 => ?_)
  have f15_25 : v15_25 = dbs d s.toNat := (e15_25.trans ((congrArg (I (k + 2)) (by omega)).trans (nS s.toNat (by omega)).2))
  have f15_25b : v15_25 = s := (by omega)
  refine And.intro ⟨r15_25, (by omega)⟩ ⟨fun h17_25 => ?_, (fun h17_25 => False.elim (by omega))⟩
  refine And.intro (zRb rfl) (zbf rfl ?_)
  refine And.intro (zDX hd 0 rfl) ⟨_, (zWi (zRb rfl)), ?_⟩
  refine And.intro (zDX hd 0 rfl) (zrd (v := 0) zxe ?_)
  refine And.intro (zRb rfl) (zbt rfl ?_)
  refine And.intro (zDX hd 0 rfl) (zrd (v := (dnl d)) (zxs (by decide) n4) ?_)
  refine And.intro ⟨(by omega), (zRb rfl)⟩ ⟨fun h46 => ?_, fun h46 => ?_⟩
  · refine And.intro (zDX hd 0 rfl) (zrdR (v := some (k + 8)) (zDR hd 7 rfl) ?_)
    refine And.intro (zDX hd 0 rfl) (zrd (v := (dnl d)) (zxs (by decide) n4) ?_)
    refine And.intro ⟨(by show 40 ≤ _; omega), (zDP hd 8 rfl rfl (by omega) (by omega))⟩ ⟨_, (zWi (by omega)), ?_⟩
    refine And.intro (zDX hd 0 rfl) (zrdR (v := some (k + 9)) (zDR hd 8 rfl) ?_)
    refine And.intro (zDX hd 0 rfl) (zrd (v := (dnl d)) (zxu (by omega) (zxs (by decide) n4)) ?_)
    refine And.intro ⟨(by show 40 ≤ _; omega), (zDP hd 9 rfl rfl (by omega) (by omega))⟩ ⟨_, (zWi (by omega)), ?_⟩
    refine And.intro (zDX hd 0 rfl) (zrdR (v := some (k + 10)) (zDR hd 9 rfl) ?_)
    refine And.intro (zDX hd 0 rfl) (zrd (v := (dnl d)) (zxu (by omega) (zxu (by omega) (zxs (by decide) n4))) ?_)
    refine And.intro ⟨(by show 40 ≤ _; omega), (zDP hd 10 rfl rfl (by omega) (by omega))⟩ ⟨_, zW6i (by omega), ?_⟩
    refine And.intro (zDX hd 0 rfl) (zrdR (v := some (k + 10)) (zDR hd 9 rfl) ?_)
    refine And.intro (zDX hd 0 rfl) (zrd (v := (dnl d)) (zxu (by omega) (zxu (by omega) (zxs (by decide) n4))) ?_)
    refine And.intro ⟨(by show 40 ≤ _; omega), (zDP hd 10 rfl rfl (by omega) (by omega))⟩ ⟨_, zW6i (by omega), ?_⟩
    refine And.intro (zDX hd 0 rfl) (zrd (v := (dnl d)) (zxu (by omega) (zxu (by omega) (zxs (by decide) n4))) ?_)
    refine And.intro (zDX hd 0 rfl) ⟨_, (zWi (by omega)), ?_⟩
    refine And.intro (zDX hd 0 rfl) ⟨_, sn_J_anew.up (by decide), ?_⟩
    refine ⟨k, (djL d s x y n 0), rfl, hd, (zNJ_L hNJ (zxe.trans (by omega)) ⟨zxu (by omega) (zxu (by omega) (zxe' (by omega))), zxu (by omega) (zxe' (by omega)), zxs (by omega) (zxe' (by omega)), zxe' (by omega)⟩ ⟨fun w hw => ⟨zxu (by omega) (zxu (by omega) (zxs (by omega) (zxu (by omega) rfl))), zxu (by omega) (zxs (by omega) (zxu (by omega) (zxu (by omega) rfl)))⟩, fun j hj => zxs (by omega) (zxs (by omega) rfl)⟩ (fun q hq => (gp q hq).1) (fun c j h => zxcj (by omega) (zxu (by omega) (zxu (by omega) (zxcj (by omega) rfl)))) (fun c j h => zxu (by omega) (zxu (by omega) rfl))), (jGd_L hJG ⟨hs, hf_.1, hf_.2, hn⟩ (by omega)), ?_⟩
    intro I110o p110hNJ2 p110bhJN2 p110bbfr
    refine And.intro (zDX hd 0 rfl) (zrd (v := ((dnl d) + 1)) ((p110bbfr k 11 (by omega) (by omega) (by omega) (by omega) (by omega) (by omega) (by omega) (by omega)).trans zxe) ?_)
    refine hQ _ _ _ (by first | (rw [if_neg (by omega)]) | (rw [if_pos (by omega)]; omega)) ?_ ?_ ?_ (fun c j h0 h1 h2 h3 h4 h5 h6 h7 h8 h9 h10 h11 => ((p110bbfr c j (by omega) (by omega) (by omega) (by omega) (by omega) (by omega) (by omega) (by omega)).trans (zxcj h1 (zxu h3 (zxu h2 (zxcj h0 rfl)))))) (fun c j h0 => (zxu h0 (zxu h0 rfl)))
    · first
      | (rw [show djLs d s x y n = d from if_neg (by omega)]
         first
         | exact (zNJ_fr hNJ (fun c j h => zxcj (by omega) rfl) (fun c j h => rfl))
         | exact hJG
         | exact (fun hn => zJN_fr hn (fun c j h => zxcj (by omega) rfl)))
      | (rw [show djLs d s x y n = djL d s x y n 0 from if_pos (by omega)]
         exact p110hNJ2)
    · first
      | (rw [show djLs d s x y n = d from if_neg (by omega)]
         first
         | exact (zNJ_fr hNJ (fun c j h => zxcj (by omega) rfl) (fun c j h => rfl))
         | exact hJG
         | exact (fun hn => zJN_fr hn (fun c j h => zxcj (by omega) rfl)))
      | (rw [show djLs d s x y n = djL d s x y n 0 from if_pos (by omega)]
         exact jGd_L hJG ⟨hs, hf_.1, hf_.2, hn⟩ (by omega))
    · first
      | (rw [show djLs d s x y n = d from if_neg (by omega)]
         first
         | exact (zNJ_fr hNJ (fun c j h => zxcj (by omega) rfl) (fun c j h => rfl))
         | exact hJG
         | exact (fun hn => zJN_fr hn (fun c j h => zxcj (by omega) rfl)))
      | (rw [show djLs d s x y n = djL d s x y n 0 from if_pos (by omega)]
         exact fun _ => p110bhJN2)
  · refine hQ _ _ _ (by first | (rw [if_neg (by omega)]) | (rw [if_pos (by omega)]; omega)) ?_ ?_ ?_ (fun c j h0 h1 h2 h3 h4 h5 h6 h7 h8 h9 h10 h11 => (zxcj h0 rfl)) (fun c j h0 => rfl)
    · first
      | (rw [show djLs d s x y n = d from if_neg (by omega)]
         first
         | exact (zNJ_fr hNJ (fun c j h => zxcj (by omega) rfl) (fun c j h => rfl))
         | exact hJG
         | exact (fun hn => zJN_fr hn (fun c j h => zxcj (by omega) rfl)))
      | (rw [show djLs d s x y n = djL d s x y n 0 from if_pos (by omega)]
         exact p110hNJ2)
    · first
      | (rw [show djLs d s x y n = d from if_neg (by omega)]
         first
         | exact (zNJ_fr hNJ (fun c j h => zxcj (by omega) rfl) (fun c j h => rfl))
         | exact hJG
         | exact (fun hn => zJN_fr hn (fun c j h => zxcj (by omega) rfl)))
      | (rw [show djLs d s x y n = djL d s x y n 0 from if_pos (by omega)]
         exact jGd_L hJG ⟨hs, hf_.1, hf_.2, hn⟩ (by omega))
    · first
      | (rw [show djLs d s x y n = d from if_neg (by omega)]
         first
         | exact (zNJ_fr hNJ (fun c j h => zxcj (by omega) rfl) (fun c j h => rfl))
         | exact hJG
         | exact (fun hn => zJN_fr hn (fun c j h => zxcj (by omega) rfl)))
      | (rw [show djLs d s x y n = djL d s x y n 0 from if_pos (by omega)]
         exact fun _ => p110bhJN2))
def T_J_junc : ZT := fun args I L R S Q => ∃ (k : Nat) (d : JdS) (s : Int) (x : Int) (y : Int), args = [zvr k, zvi s, zvl x, zvl y] ∧ (zDy zT18 zF18 k R S) ∧ (zNJ k d I L) ∧ (jGd d) ∧ (0 ≤ s ∧ s < dns d ∧ dbs d s.toNat = s) ∧ (jFar x ∧ jFar y) ∧ ∀ (v : Int) (I' : ZI) (L' : ZI), (zNJ k (djJs d s x y) I' L') → (jGd (djJs d s x y)) → (zJN k d I → zJN k (djJs d s x y) I') → (∀ c j : Nat, ¬ (c = k ∧ j = 0) → ¬ (c = k ∧ j = 8) → ¬ c = k + 6 → ¬ (c = k ∧ j = 29) → ¬ (c = k ∧ j = 31) → ¬ (c = k ∧ j = 32) → ¬ c = k + 18 → ¬ c = k + 19 → ¬ c = k + 20 → ¬ c = k + 21 → ¬ c = k + 22 → I' c j = I c j) → (∀ c j : Nat, ¬ c = k + 7 → L' c j = L c j) → Q (some (zvi (v))) I' L' R S
theorem sn_J_junc : ZSnd 7 18 18 T_J_junc := ZSnd.loops (zT18_18 6) (by
  rintro args I L R S Q hz ⟨k, d, s, x, y, rfl, hd, hNJ, hJG, hs, hf_, hQ⟩
  have h5 := hd.1
  obtain ⟨⟨n1, n2, n3, n4, n5, n6, n7⟩, nS, nW, nD, nJ, nL, nT, nO, nP, nR⟩ := id hNJ
  obtain ⟨⟨g1, g2, g3, g4, g5, g6⟩, gs, gw, gj, gl, gp, gt⟩ := id hJG
  have hf_x : -1000000000 ≤ x ∧ x ≤ 1000000000 := hf_.1
  have hf_y : -1000000000 ≤ y ∧ y ≤ 1000000000 := hf_.2
  refine ⟨[36], fun nM tM lsM stM I1 L1 R1 S1 => match tM with
      | 36 => ∃ (m : Nat), nM = ((51 - m), 0, 0) ∧ lsM = [some (zvr (k)), some (zvi (s)), some (zvl (x)), none, some (zvl (y)), none, some (zvi (m))] ∧ stM = [] ∧ L1 = L ∧ R1 = R ∧ S1 = S ∧ (m ≤ dnj d) ∧ (dnj d < 50) ∧ (∀ j : Nat, j < m → ¬ (dJ d j 0 = s ∧ dJ d j 1 = x ∧ dJ d j 2 = y)) ∧ (∀ c j : Nat, ¬ (c = k ∧ j = 0) → I1 c j = I c j)
      | _ => False, rfl, ?_, ⟨?_, True.intro⟩⟩
  · refine Exists.intro _ (And.intro (zinl_ok (zT18_10 5)) (And.intro rfl ?_))
    refine ⟨_, _, ⟨zW6i (by omega), zW6i (zRL rfl)⟩, fun z4_6 c4_6 => ?_⟩
    refine And.intro c4_6.2.2 ⟨(fun h5_6 => False.elim (by omega)), fun h5_6 => ?_⟩
    refine ⟨_, _, ⟨zW6i (by omega), zW6i (zRL rfl)⟩, fun z12_6 c12_6 => ?_⟩
    refine And.intro c12_6.2.2 ⟨(fun h13_6 => False.elim (by omega)), fun h13_6 => ?_⟩
    refine ⟨_, _, ⟨zW6i (by omega), zW6i (zRL rfl)⟩, fun z20_6 c20_6 => ?_⟩
    refine And.intro c20_6.2.2 ⟨(fun h21_6 => False.elim (by omega)), fun h21_6 => ?_⟩
    refine ⟨_, _, ⟨zW6i (by omega), zW6i (zRL rfl)⟩, fun z28_6 c28_6 => ?_⟩
    refine And.intro c28_6.2.2 ⟨(fun h29_6 => False.elim (by omega)), fun h29_6 => ?_⟩
    refine And.intro (Or.inr rfl) ?_
    refine And.intro (zDX hd 0 rfl) (Exists.intro _ (And.intro (zinl_ok (zT18_31 5)) (And.intro rfl ?_)))
    refine And.intro (zDX hd 0 rfl) (Exists.intro _ (And.intro (zinl_ok (zT18_11 4)) (And.intro rfl ?_)))
    refine And.intro (by omega) ⟨(fun h1_9_2 => False.elim (by omega)), fun h1_9_2 => ?_⟩
    refine And.intro (zDX hd 0 rfl) (zrd (v := (dns d)) n1 ?_)
    refine And.intro ⟨(by omega), (by omega)⟩ ⟨(fun h9_9_2 => False.elim (by omega)), fun h9_9_2 => ?_⟩
    refine And.intro (Or.inr rfl) ?_
    refine And.intro (zRb rfl) (zbt rfl ?_)
    refine And.intro (zDX hd 0 rfl) (zrdR (v := some (k + 2)) (zDR hd 1 rfl) ?_)
    refine And.intro (zDP hd 2 rfl rfl (by omega) (by omega)) (fun v15_9 e15_9 r15_9 => ?_)
    have f15_9 : v15_9 = dbs d s.toNat := (e15_9.trans ((congrArg (I (k + 2)) (by omega)).trans (nS s.toNat (by omega)).2))
    have f15_9b : v15_9 = s := (by omega)
    refine And.intro ⟨r15_9, (by omega)⟩ ⟨fun h17_9 => ?_, (fun h17_9 => False.elim (by omega))⟩
    refine And.intro (zRb rfl) (zbf rfl ?_)
    refine And.intro (zDX hd 0 rfl) ⟨_, (zWi (zRb rfl)), ?_⟩
    refine And.intro (zDX hd 0 rfl) (zrd (v := 0) zxe ?_)
    refine And.intro (zRb rfl) (zbf rfl ?_)
    refine And.intro (zDX hd 0 rfl) (zrd (v := (dnj d)) (zxs (by decide) n3) ?_)
    refine And.intro ⟨(by omega), (zRb rfl)⟩ ⟨fun h28 => ?_, fun h28 => ?_⟩
    · refine ⟨((51 - (0 : Nat)), 0, 0), [some (zvr (k)), some (zvi (s)), some (zvl (x)), none, some (zvl (y)), none, some (zvi ((0 : Nat)))], ⟨rfl, rfl, rfl, rfl, rfl, rfl⟩, 0, rfl, rfl, rfl, rfl, rfl, rfl, (by omega), (by omega), (fun j h => absurd h (Nat.not_lt_zero j)), (fun c j h0 => (zxcj h0 rfl))⟩
    · refine And.intro (Or.inl rfl) ?_
      refine hQ _ _ _ ?_ ?_ ?_ (fun c j h0 h1 h2 h3 h4 h5 h6 h7 h8 h9 h10 => (zxcj h0 rfl)) (fun c j h0 => rfl)
      · first
        | (rw [show djJs d s x y = d from if_neg (fun w => by first | omega | exact w.2 m (by omega) ⟨by omega, by omega, by omega⟩)]
           first
           | exact (zNJ_fr hNJ (fun c j h => zxcj (by omega) rfl) (fun c j h => rfl))
           | exact (zNJ_fr hNJ (fun c j h => fr c j (by omega)) (fun c j h => rfl))
           | exact hJG
           | exact (fun hn => zJN_fr hn (fun c j h => zxcj (by omega) rfl))
           | exact fun hn => zJN_fr hn (fun c j h => fr c j (by omega)))
        | (rw [show djJs d s x y = djJ d s x y 0 0 from if_pos ⟨by omega, fun j hj => hno j (by omega)⟩]
           exact p143hNJ2)
      · first
        | (rw [show djJs d s x y = d from if_neg (fun w => by first | omega | exact w.2 m (by omega) ⟨by omega, by omega, by omega⟩)]
           first
           | exact (zNJ_fr hNJ (fun c j h => zxcj (by omega) rfl) (fun c j h => rfl))
           | exact (zNJ_fr hNJ (fun c j h => fr c j (by omega)) (fun c j h => rfl))
           | exact hJG
           | exact (fun hn => zJN_fr hn (fun c j h => zxcj (by omega) rfl))
           | exact fun hn => zJN_fr hn (fun c j h => fr c j (by omega)))
        | (rw [show djJs d s x y = djJ d s x y 0 0 from if_pos ⟨by omega, fun j hj => hno j (by omega)⟩]
           exact jGd_J hJG ⟨⟨hs.1, hs.2.1⟩, hf_⟩ (by omega))
      · first
        | (rw [show djJs d s x y = d from if_neg (fun w => by first | omega | exact w.2 m (by omega) ⟨by omega, by omega, by omega⟩)]
           first
           | exact (zNJ_fr hNJ (fun c j h => zxcj (by omega) rfl) (fun c j h => rfl))
           | exact (zNJ_fr hNJ (fun c j h => fr c j (by omega)) (fun c j h => rfl))
           | exact hJG
           | exact (fun hn => zJN_fr hn (fun c j h => zxcj (by omega) rfl))
           | exact fun hn => zJN_fr hn (fun c j h => fr c j (by omega)))
        | (rw [show djJs d s x y = djJ d s x y 0 0 from if_pos ⟨by omega, fun j hj => hno j (by omega)⟩]
           exact fun _ => p143bhJN2)
  · rintro nM lsM stM I1 L1 R1 S1 hz1 ⟨m, rfl, rfl, rfl, rfl, rfl, rfl, hm, hr5, hno, fr⟩
    refine And.intro (zDX hd 0 rfl) (zrd (v := (dnj d)) ((fr k 8 (by omega)).trans n3) ?_)
    refine And.intro ⟨(by omega), (by omega)⟩ ⟨fun h42 => ?_, fun h42 => ?_⟩
    · refine And.intro (zDX hd 0 rfl) (zrdR (v := some (k + 6)) (zDR hd 5 rfl) ?_)
      refine And.intro (zDX hd 0 rfl) (zrd (v := (dnj d)) ((fr k 8 (by omega)).trans n3) ?_)
      refine And.intro ⟨(by show 40 ≤ _; omega), (zDP hd 6 rfl rfl (by omega) (by omega))⟩ ⟨_, (zWi (by omega)), ?_⟩
      refine And.intro (zDX hd 0 rfl) (zrdR (v := some (k + 7)) (zDR hd 6 rfl) ?_)
      refine And.intro (zDX hd 0 rfl) (zrd (v := (dnj d)) (zxu (by omega) ((fr k 8 (by omega)).trans n3)) ?_)
      refine And.intro ⟨(by show 40 ≤ _; omega), (zDP hd 7 rfl rfl (by omega) (by omega))⟩ ⟨_, zW6i (by omega), ?_⟩
      refine And.intro (zDX hd 0 rfl) (zrdR (v := some (k + 7)) (zDR hd 6 rfl) ?_)
      refine And.intro (zDX hd 0 rfl) (zrd (v := (dnj d)) (zxu (by omega) ((fr k 8 (by omega)).trans n3)) ?_)
      refine And.intro ⟨(by show 40 ≤ _; omega), (zDP hd 7 rfl rfl (by omega) (by omega))⟩ ⟨_, zW6i (by omega), ?_⟩
      refine And.intro (zDX hd 0 rfl) (zrd (v := (dnj d)) (zxu (by omega) ((fr k 8 (by omega)).trans n3)) ?_)
      refine And.intro (zDX hd 0 rfl) ⟨_, (zWi (by omega)), ?_⟩
      refine And.intro (zDX hd 0 rfl) ⟨_, sn_J_anew.up (by decide), ?_⟩
      refine ⟨k, (djJ d s x y 0 0), rfl, hd, (zNJ_J hNJ (zxe.trans (by omega)) ⟨zxu (by omega) (zxe' (by omega)), zxs (by omega) (zxe' (by omega)), zxe' (by omega)⟩ ⟨fun w hw => zxu (by omega) (zxs (by omega) (fr _ _ (by omega))), fun j hj => zxs (by omega) (zxs (by omega) rfl)⟩ (fun c j h => zxcj (by omega) (zxu (by omega) (fr _ _ (by omega)))) (fun c j h => zxu (by omega) (zxu (by omega) rfl))), (jGd_J hJG ⟨⟨hs.1, hs.2.1⟩, hf_⟩ (by omega)), ?_⟩
      intro I143o p143hNJ2 p143bhJN2 p143bbfr
      refine And.intro (Or.inr rfl) ?_
      refine hQ _ _ _ ?_ ?_ ?_ (fun c j h0 h1 h2 h3 h4 h5 h6 h7 h8 h9 h10 => ((p143bbfr c j (by omega) (by omega) (by omega) (by omega) (by omega) (by omega) (by omega) (by omega)).trans (zxcj h1 (zxu h2 ((fr c j (by omega)).trans rfl))))) (fun c j h0 => (zxu h0 (zxu h0 rfl)))
      · first
        | (rw [show djJs d s x y = d from if_neg (fun w => by first | omega | exact w.2 m (by omega) ⟨by omega, by omega, by omega⟩)]
           first
           | exact (zNJ_fr hNJ (fun c j h => zxcj (by omega) rfl) (fun c j h => rfl))
           | exact (zNJ_fr hNJ (fun c j h => fr c j (by omega)) (fun c j h => rfl))
           | exact hJG
           | exact (fun hn => zJN_fr hn (fun c j h => zxcj (by omega) rfl))
           | exact fun hn => zJN_fr hn (fun c j h => fr c j (by omega)))
        | (rw [show djJs d s x y = djJ d s x y 0 0 from if_pos ⟨by omega, fun j hj => hno j (by omega)⟩]
           exact p143hNJ2)
      · first
        | (rw [show djJs d s x y = d from if_neg (fun w => by first | omega | exact w.2 m (by omega) ⟨by omega, by omega, by omega⟩)]
           first
           | exact (zNJ_fr hNJ (fun c j h => zxcj (by omega) rfl) (fun c j h => rfl))
           | exact (zNJ_fr hNJ (fun c j h => fr c j (by omega)) (fun c j h => rfl))
           | exact hJG
           | exact (fun hn => zJN_fr hn (fun c j h => zxcj (by omega) rfl))
           | exact fun hn => zJN_fr hn (fun c j h => fr c j (by omega)))
        | (rw [show djJs d s x y = djJ d s x y 0 0 from if_pos ⟨by omega, fun j hj => hno j (by omega)⟩]
           exact jGd_J hJG ⟨⟨hs.1, hs.2.1⟩, hf_⟩ (by omega))
      · first
        | (rw [show djJs d s x y = d from if_neg (fun w => by first | omega | exact w.2 m (by omega) ⟨by omega, by omega, by omega⟩)]
           first
           | exact (zNJ_fr hNJ (fun c j h => zxcj (by omega) rfl) (fun c j h => rfl))
           | exact (zNJ_fr hNJ (fun c j h => fr c j (by omega)) (fun c j h => rfl))
           | exact hJG
           | exact (fun hn => zJN_fr hn (fun c j h => zxcj (by omega) rfl))
           | exact fun hn => zJN_fr hn (fun c j h => fr c j (by omega)))
        | (rw [show djJs d s x y = djJ d s x y 0 0 from if_pos ⟨by omega, fun j hj => hno j (by omega)⟩]
           exact fun _ => p143bhJN2)
    · refine And.intro (zDX hd 0 rfl) (zrdR (v := some (k + 6)) (zDR hd 5 rfl) ?_)
      refine And.intro (zDP hd 6 rfl rfl (by omega) (by omega)) (fun v51 e51 r51 => ?_)
      have f51 : v51 = dJ d m 0 := (e51.trans ((congrArg (I1 (k + 6)) (by omega)).trans ((fr (k + 6) m (by omega)).trans (nJ m (by omega)).1)))
      refine And.intro ⟨r51, (by omega)⟩ ⟨fun h53 => ?_, fun h53 => ?_⟩
      · refine ⟨((51 - (m + 1)), 0, 0), zlt6 (by omega), [some (zvr (k)), some (zvi (s)), some (zvl (x)), none, some (zvl (y)), none, some (zvi ((m + 1)))], ⟨rfl, rfl, rfl, rfl, rfl, rfl⟩, (m + 1), rfl, rfl, rfl, rfl, rfl, rfl, (by omega), (by omega), ?_, (fun c j h0 => ((fr c j (by omega)).trans rfl))⟩
        · intro j hj
          by_cases e : j = m
          · rw [e]
            intro w
            have w1 := w.1
            have w2 := w.2.1
            have w3 := w.2.2
            omega
          · exact hno j (by omega)
      · refine And.intro (zDX hd 0 rfl) (zrdR (v := some (k + 7)) (zDR hd 6 rfl) ?_)
        refine And.intro (zDP hd 7 rfl rfl (by omega) (by omega)) (fun v64 e64 r64 => ?_)
        have f64 : v64 = dJ d m 1 := (e64.trans ((congrArg (L1 (k + 7)) (by omega)).trans (nJ m (by omega)).2.1))
        refine ⟨_, _, ⟨zW6i r64, zW6i (by omega)⟩, fun z66 c66 => ?_⟩
        refine And.intro c66.2.2 ⟨fun h67 => ?_, fun h67 => ?_⟩
        · refine ⟨((51 - (m + 1)), 0, 0), zlt6 (by omega), [some (zvr (k)), some (zvi (s)), some (zvl (x)), none, some (zvl (y)), none, some (zvi ((m + 1)))], ⟨rfl, rfl, rfl, rfl, rfl, rfl⟩, (m + 1), rfl, rfl, rfl, rfl, rfl, rfl, (by omega), (by omega), ?_, (fun c j h0 => ((fr c j (by omega)).trans rfl))⟩
          · intro j hj
            by_cases e : j = m
            · rw [e]
              intro w
              have w1 := w.1
              have w2 := w.2.1
              have w3 := w.2.2
              omega
            · exact hno j (by omega)
        · refine And.intro (zDX hd 0 rfl) (zrdR (v := some (k + 7)) (zDR hd 6 rfl) ?_)
          refine And.intro (zDP hd 7 rfl rfl (by omega) (by omega)) (fun v80 e80 r80 => ?_)
          have f80 : v80 = dJ d m 2 := (e80.trans ((congrArg (L1 (k + 7)) (by omega)).trans (nJ m (by omega)).2.2))
          refine ⟨_, _, ⟨zW6i r80, zW6i (by omega)⟩, fun z83 c83 => ?_⟩
          refine And.intro c83.2.2 ⟨fun h84 => ?_, fun h84 => ?_⟩
          · refine ⟨((51 - (m + 1)), 0, 0), zlt6 (by omega), [some (zvr (k)), some (zvi (s)), some (zvl (x)), none, some (zvl (y)), none, some (zvi ((m + 1)))], ⟨rfl, rfl, rfl, rfl, rfl, rfl⟩, (m + 1), rfl, rfl, rfl, rfl, rfl, rfl, (by omega), (by omega), ?_, (fun c j h0 => ((fr c j (by omega)).trans rfl))⟩
            · intro j hj
              by_cases e : j = m
              · rw [e]
                intro w
                have w1 := w.1
                have w2 := w.2.1
                have w3 := w.2.2
                omega
              · exact hno j (by omega)
          · refine And.intro (Or.inl rfl) ?_
            refine hQ _ _ _ ?_ ?_ ?_ (fun c j h0 h1 h2 h3 h4 h5 h6 h7 h8 h9 h10 => ((fr c j (by omega)).trans rfl)) (fun c j h0 => rfl)
            · first
              | (rw [show djJs d s x y = d from if_neg (fun w => by first | omega | exact w.2 m (by omega) ⟨by omega, by omega, by omega⟩)]
                 first
                 | exact (zNJ_fr hNJ (fun c j h => zxcj (by omega) rfl) (fun c j h => rfl))
                 | exact (zNJ_fr hNJ (fun c j h => fr c j (by omega)) (fun c j h => rfl))
                 | exact hJG
                 | exact (fun hn => zJN_fr hn (fun c j h => zxcj (by omega) rfl))
                 | exact fun hn => zJN_fr hn (fun c j h => fr c j (by omega)))
              | (rw [show djJs d s x y = djJ d s x y 0 0 from if_pos ⟨by omega, fun j hj => hno j (by omega)⟩]
                 exact p143hNJ2)
            · first
              | (rw [show djJs d s x y = d from if_neg (fun w => by first | omega | exact w.2 m (by omega) ⟨by omega, by omega, by omega⟩)]
                 first
                 | exact (zNJ_fr hNJ (fun c j h => zxcj (by omega) rfl) (fun c j h => rfl))
                 | exact (zNJ_fr hNJ (fun c j h => fr c j (by omega)) (fun c j h => rfl))
                 | exact hJG
                 | exact (fun hn => zJN_fr hn (fun c j h => zxcj (by omega) rfl))
                 | exact fun hn => zJN_fr hn (fun c j h => fr c j (by omega)))
              | (rw [show djJs d s x y = djJ d s x y 0 0 from if_pos ⟨by omega, fun j hj => hno j (by omega)⟩]
                 exact jGd_J hJG ⟨⟨hs.1, hs.2.1⟩, hf_⟩ (by omega))
            · first
              | (rw [show djJs d s x y = d from if_neg (fun w => by first | omega | exact w.2 m (by omega) ⟨by omega, by omega, by omega⟩)]
                 first
                 | exact (zNJ_fr hNJ (fun c j h => zxcj (by omega) rfl) (fun c j h => rfl))
                 | exact (zNJ_fr hNJ (fun c j h => fr c j (by omega)) (fun c j h => rfl))
                 | exact hJG
                 | exact (fun hn => zJN_fr hn (fun c j h => zxcj (by omega) rfl))
                 | exact fun hn => zJN_fr hn (fun c j h => fr c j (by omega)))
              | (rw [show djJs d s x y = djJ d s x y 0 0 from if_pos ⟨by omega, fun j hj => hno j (by omega)⟩]
                 exact fun _ => p143bhJN2))
def T_J_pin : ZT := fun args I L R S Q => ∃ (k : Nat) (d : JdS) (s : Int) (x : Int) (y : Int) (n : Int), args = [zvr k, zvi s, zvl x, zvl y, zvi n] ∧ (zDy zT18 zF18 k R S) ∧ (zNJ k d I L) ∧ (jGd d) ∧ (0 ≤ s ∧ s < dns d ∧ dbs d s.toNat = s) ∧ (jFar x ∧ jFar y) ∧ (r32 n) ∧ ∀ (v : Int) (I' : ZI) (L' : ZI), (zNJ k (djTs d s x y n) I' L') → (jGd (djTs d s x y n)) → (zJN k d I → zJN k (djTs d s x y n) I') → (∀ c j : Nat, ¬ (c = k ∧ j = 0) → ¬ (c = k ∧ j = 15) → ¬ c = k + 11 → ¬ c = k + 12 → ¬ (c = k ∧ j = 29) → ¬ (c = k ∧ j = 31) → ¬ (c = k ∧ j = 32) → ¬ c = k + 18 → ¬ c = k + 19 → ¬ c = k + 20 → ¬ c = k + 21 → ¬ c = k + 22 → I' c j = I c j) → (∀ c j : Nat, ¬ c = k + 13 → L' c j = L c j) → Q (some (zvi (v))) I' L' R S
theorem sn_J_pin : ZSnd 7 18 29 T_J_pin := ZSnd.loops (zT18_29 6) (by
  rintro args I L R S Q hz ⟨k, d, s, x, y, n, rfl, hd, hNJ, hJG, hs, hf_, hn, hQ⟩
  have h5 := hd.1
  obtain ⟨⟨n1, n2, n3, n4, n5, n6, n7⟩, nS, nW, nD, nJ, nL, nT, nO, nP, nR⟩ := id hNJ
  obtain ⟨⟨g1, g2, g3, g4, g5, g6⟩, gs, gw, gj, gl, gp, gt⟩ := id hJG
  have hf_x : -1000000000 ≤ x ∧ x ≤ 1000000000 := hf_.1
  have hf_y : -1000000000 ≤ y ∧ y ≤ 1000000000 := hf_.2
  refine ⟨[38], fun nM tM lsM stM I1 L1 R1 S1 => match tM with
      | 38 => ∃ (m : Nat), nM = ((61 - m), 0, 0) ∧ lsM = [some (zvr (k)), some (zvi (s)), some (zvl (x)), none, some (zvl (y)), none, some (zvi (n)), some (zvi (m))] ∧ stM = [] ∧ L1 = L ∧ R1 = R ∧ S1 = S ∧ (m ≤ dnt d) ∧ (dnt d < 60) ∧ (∀ j : Nat, j < m → ¬ (dT d j 0 = s ∧ dT d j 3 = n ∧ dT d j 1 = x ∧ dT d j 2 = y)) ∧ (∀ c j : Nat, ¬ (c = k ∧ j = 0) → I1 c j = I c j)
      | _ => False, rfl, ?_, ⟨?_, True.intro⟩⟩
  · refine Exists.intro _ (And.intro (zinl_ok (zT18_10 5)) (And.intro rfl ?_))
    refine ⟨_, _, ⟨zW6i (by omega), zW6i (zRL rfl)⟩, fun z4_6 c4_6 => ?_⟩
    refine And.intro c4_6.2.2 ⟨(fun h5_6 => False.elim (by omega)), fun h5_6 => ?_⟩
    refine ⟨_, _, ⟨zW6i (by omega), zW6i (zRL rfl)⟩, fun z12_6 c12_6 => ?_⟩
    refine And.intro c12_6.2.2 ⟨(fun h13_6 => False.elim (by omega)), fun h13_6 => ?_⟩
    refine ⟨_, _, ⟨zW6i (by omega), zW6i (zRL rfl)⟩, fun z20_6 c20_6 => ?_⟩
    refine And.intro c20_6.2.2 ⟨(fun h21_6 => False.elim (by omega)), fun h21_6 => ?_⟩
    refine ⟨_, _, ⟨zW6i (by omega), zW6i (zRL rfl)⟩, fun z28_6 c28_6 => ?_⟩
    refine And.intro c28_6.2.2 ⟨(fun h29_6 => False.elim (by omega)), fun h29_6 => ?_⟩
    refine And.intro (Or.inr rfl) ?_
    refine And.intro (zDX hd 0 rfl) (Exists.intro _ (And.intro (zinl_ok (zT18_31 5)) (And.intro rfl ?_)))
    refine And.intro (zDX hd 0 rfl) (Exists.intro _ (And.intro (zinl_ok (zT18_11 4)) (And.intro rfl ?_)))
    refine And.intro (by omega) ⟨(fun h1_9_2 => False.elim (by omega)), fun h1_9_2 => ?_⟩
    refine And.intro (zDX hd 0 rfl) (zrd (v := (dns d)) n1 ?_)
    refine And.intro ⟨(by omega), (by omega)⟩ ⟨(fun h9_9_2 => False.elim (by omega)), fun h9_9_2 => ?_⟩
    refine And.intro (Or.inr rfl) ?_
    refine And.intro (zRb rfl) (zbt rfl ?_)
    refine And.intro (zDX hd 0 rfl) (zrdR (v := some (k + 2)) (zDR hd 1 rfl) ?_)
    refine And.intro (zDP hd 2 rfl rfl (by omega) (by omega)) (fun v15_9 e15_9 r15_9 => ?_)
    have f15_9 : v15_9 = dbs d s.toNat := (e15_9.trans ((congrArg (I (k + 2)) (by omega)).trans (nS s.toNat (by omega)).2))
    have f15_9b : v15_9 = s := (by omega)
    refine And.intro ⟨r15_9, (by omega)⟩ ⟨fun h17_9 => ?_, (fun h17_9 => False.elim (by omega))⟩
    refine And.intro (zRb rfl) (zbf rfl ?_)
    refine And.intro (zDX hd 0 rfl) ⟨_, (zWi (zRb rfl)), ?_⟩
    refine And.intro (zDX hd 0 rfl) (zrd (v := 0) zxe ?_)
    refine And.intro (zRb rfl) (zbt rfl ?_)
    refine And.intro (zDX hd 0 rfl) (zrd (v := (dnt d)) (zxs (by decide) n5) ?_)
    refine And.intro ⟨(by omega), (zRb rfl)⟩ ⟨fun h30 => ?_, fun h30 => ?_⟩
    · refine ⟨((61 - (0 : Nat)), 0, 0), [some (zvr (k)), some (zvi (s)), some (zvl (x)), none, some (zvl (y)), none, some (zvi (n)), some (zvi ((0 : Nat)))], ⟨rfl, rfl, rfl, rfl, rfl, rfl, rfl⟩, 0, rfl, rfl, rfl, rfl, rfl, rfl, (by omega), (by omega), (fun j h => absurd h (Nat.not_lt_zero j)), (fun c j h0 => (zxcj h0 rfl))⟩
    · refine hQ _ _ _ ?_ ?_ ?_ (fun c j h0 h1 h2 h3 h4 h5 h6 h7 h8 h9 h10 h11 => (zxcj h0 rfl)) (fun c j h0 => rfl)
      · first
        | (rw [show djTs d s x y n = d from if_neg (fun w => by first | omega | exact w.2 m (by omega) ⟨by omega, by omega, by omega, by omega⟩)]
           first
           | exact (zNJ_fr hNJ (fun c j h => zxcj (by omega) rfl) (fun c j h => rfl))
           | exact (zNJ_fr hNJ (fun c j h => fr c j (by omega)) (fun c j h => rfl))
           | exact hJG
           | exact (fun hn => zJN_fr hn (fun c j h => zxcj (by omega) rfl))
           | exact fun hn => zJN_fr hn (fun c j h => fr c j (by omega)))
        | (rw [show djTs d s x y n = djT d s x y n 0 from if_pos ⟨by omega, fun j hj => hno j (by omega)⟩]
           exact p168hNJ2)
      · first
        | (rw [show djTs d s x y n = d from if_neg (fun w => by first | omega | exact w.2 m (by omega) ⟨by omega, by omega, by omega, by omega⟩)]
           first
           | exact (zNJ_fr hNJ (fun c j h => zxcj (by omega) rfl) (fun c j h => rfl))
           | exact (zNJ_fr hNJ (fun c j h => fr c j (by omega)) (fun c j h => rfl))
           | exact hJG
           | exact (fun hn => zJN_fr hn (fun c j h => zxcj (by omega) rfl))
           | exact fun hn => zJN_fr hn (fun c j h => fr c j (by omega)))
        | (rw [show djTs d s x y n = djT d s x y n 0 from if_pos ⟨by omega, fun j hj => hno j (by omega)⟩]
           exact jGd_T hJG ⟨hs, hf_⟩ (by omega))
      · first
        | (rw [show djTs d s x y n = d from if_neg (fun w => by first | omega | exact w.2 m (by omega) ⟨by omega, by omega, by omega, by omega⟩)]
           first
           | exact (zNJ_fr hNJ (fun c j h => zxcj (by omega) rfl) (fun c j h => rfl))
           | exact (zNJ_fr hNJ (fun c j h => fr c j (by omega)) (fun c j h => rfl))
           | exact hJG
           | exact (fun hn => zJN_fr hn (fun c j h => zxcj (by omega) rfl))
           | exact fun hn => zJN_fr hn (fun c j h => fr c j (by omega)))
        | (rw [show djTs d s x y n = djT d s x y n 0 from if_pos ⟨by omega, fun j hj => hno j (by omega)⟩]
           exact fun _ => p168bhJN2)
  · rintro nM lsM stM I1 L1 R1 S1 hz1 ⟨m, rfl, rfl, rfl, rfl, rfl, rfl, hm, hr5, hno, fr⟩
    refine And.intro (zDX hd 0 rfl) (zrd (v := (dnt d)) ((fr k 15 (by omega)).trans n5) ?_)
    refine And.intro ⟨(by omega), (by omega)⟩ ⟨fun h44 => ?_, fun h44 => ?_⟩
    · refine And.intro (zDX hd 0 rfl) (zrdR (v := some (k + 11)) (zDR hd 10 rfl) ?_)
      refine And.intro (zDX hd 0 rfl) (zrd (v := (dnt d)) ((fr k 15 (by omega)).trans n5) ?_)
      refine And.intro ⟨(by show 40 ≤ _; omega), (zDP hd 11 rfl rfl (by omega) (by omega))⟩ ⟨_, (zWi (by omega)), ?_⟩
      refine And.intro (zDX hd 0 rfl) (zrdR (v := some (k + 12)) (zDR hd 11 rfl) ?_)
      refine And.intro (zDX hd 0 rfl) (zrd (v := (dnt d)) (zxu (by omega) ((fr k 15 (by omega)).trans n5)) ?_)
      refine And.intro ⟨(by show 40 ≤ _; omega), (zDP hd 12 rfl rfl (by omega) (by omega))⟩ ⟨_, (zWi (by omega)), ?_⟩
      refine And.intro (zDX hd 0 rfl) (zrdR (v := some (k + 13)) (zDR hd 12 rfl) ?_)
      refine And.intro (zDX hd 0 rfl) (zrd (v := (dnt d)) (zxu (by omega) (zxu (by omega) ((fr k 15 (by omega)).trans n5))) ?_)
      refine And.intro ⟨(by show 40 ≤ _; omega), (zDP hd 13 rfl rfl (by omega) (by omega))⟩ ⟨_, zW6i (by omega), ?_⟩
      refine And.intro (zDX hd 0 rfl) (zrdR (v := some (k + 13)) (zDR hd 12 rfl) ?_)
      refine And.intro (zDX hd 0 rfl) (zrd (v := (dnt d)) (zxu (by omega) (zxu (by omega) ((fr k 15 (by omega)).trans n5))) ?_)
      refine And.intro ⟨(by show 40 ≤ _; omega), (zDP hd 13 rfl rfl (by omega) (by omega))⟩ ⟨_, zW6i (by omega), ?_⟩
      refine And.intro (zDX hd 0 rfl) (zrd (v := (dnt d)) (zxu (by omega) (zxu (by omega) ((fr k 15 (by omega)).trans n5))) ?_)
      refine And.intro (zDX hd 0 rfl) ⟨_, (zWi (by omega)), ?_⟩
      refine And.intro (zDX hd 0 rfl) ⟨_, sn_J_anew.up (by decide), ?_⟩
      refine ⟨k, (djT d s x y n 0), rfl, hd, (zNJ_T hNJ (zxe.trans (by omega)) ⟨zxu (by omega) (zxu (by omega) (zxe' (by omega))), zxu (by omega) (zxe' (by omega)), zxs (by omega) (zxe' (by omega)), zxe' (by omega)⟩ ⟨fun w hw => ⟨zxu (by omega) (zxu (by omega) (zxs (by omega) (fr _ _ (by omega)))), zxu (by omega) (zxs (by omega) (zxu (by omega) (fr _ _ (by omega))))⟩, fun j hj => zxs (by omega) (zxs (by omega) rfl)⟩ (fun c j h => zxcj (by omega) (zxu (by omega) (zxu (by omega) (fr _ _ (by omega))))) (fun c j h => zxu (by omega) (zxu (by omega) rfl))), (jGd_T hJG ⟨hs, hf_⟩ (by omega)), ?_⟩
      intro I168o p168hNJ2 p168bhJN2 p168bbfr
      refine And.intro (zDX hd 0 rfl) (zrd (v := ((dnt d) + 1)) ((p168bbfr k 15 (by omega) (by omega) (by omega) (by omega) (by omega) (by omega) (by omega) (by omega)).trans zxe) ?_)
      refine hQ _ _ _ ?_ ?_ ?_ (fun c j h0 h1 h2 h3 h4 h5 h6 h7 h8 h9 h10 h11 => ((p168bbfr c j (by omega) (by omega) (by omega) (by omega) (by omega) (by omega) (by omega) (by omega)).trans (zxcj h1 (zxu h3 (zxu h2 ((fr c j (by omega)).trans rfl)))))) (fun c j h0 => (zxu h0 (zxu h0 rfl)))
      · first
        | (rw [show djTs d s x y n = d from if_neg (fun w => by first | omega | exact w.2 m (by omega) ⟨by omega, by omega, by omega, by omega⟩)]
           first
           | exact (zNJ_fr hNJ (fun c j h => zxcj (by omega) rfl) (fun c j h => rfl))
           | exact (zNJ_fr hNJ (fun c j h => fr c j (by omega)) (fun c j h => rfl))
           | exact hJG
           | exact (fun hn => zJN_fr hn (fun c j h => zxcj (by omega) rfl))
           | exact fun hn => zJN_fr hn (fun c j h => fr c j (by omega)))
        | (rw [show djTs d s x y n = djT d s x y n 0 from if_pos ⟨by omega, fun j hj => hno j (by omega)⟩]
           exact p168hNJ2)
      · first
        | (rw [show djTs d s x y n = d from if_neg (fun w => by first | omega | exact w.2 m (by omega) ⟨by omega, by omega, by omega, by omega⟩)]
           first
           | exact (zNJ_fr hNJ (fun c j h => zxcj (by omega) rfl) (fun c j h => rfl))
           | exact (zNJ_fr hNJ (fun c j h => fr c j (by omega)) (fun c j h => rfl))
           | exact hJG
           | exact (fun hn => zJN_fr hn (fun c j h => zxcj (by omega) rfl))
           | exact fun hn => zJN_fr hn (fun c j h => fr c j (by omega)))
        | (rw [show djTs d s x y n = djT d s x y n 0 from if_pos ⟨by omega, fun j hj => hno j (by omega)⟩]
           exact jGd_T hJG ⟨hs, hf_⟩ (by omega))
      · first
        | (rw [show djTs d s x y n = d from if_neg (fun w => by first | omega | exact w.2 m (by omega) ⟨by omega, by omega, by omega, by omega⟩)]
           first
           | exact (zNJ_fr hNJ (fun c j h => zxcj (by omega) rfl) (fun c j h => rfl))
           | exact (zNJ_fr hNJ (fun c j h => fr c j (by omega)) (fun c j h => rfl))
           | exact hJG
           | exact (fun hn => zJN_fr hn (fun c j h => zxcj (by omega) rfl))
           | exact fun hn => zJN_fr hn (fun c j h => fr c j (by omega)))
        | (rw [show djTs d s x y n = djT d s x y n 0 from if_pos ⟨by omega, fun j hj => hno j (by omega)⟩]
           exact fun _ => p168bhJN2)
    · refine And.intro (zDX hd 0 rfl) (zrdR (v := some (k + 11)) (zDR hd 10 rfl) ?_)
      refine And.intro (zDP hd 11 rfl rfl (by omega) (by omega)) (fun v53 e53 r53 => ?_)
      have f53 : v53 = dT d m 0 := (e53.trans ((congrArg (I1 (k + 11)) (by omega)).trans ((fr (k + 11) m (by omega)).trans (nT m (by omega)).1)))
      refine And.intro ⟨r53, (by omega)⟩ ⟨fun h55 => ?_, fun h55 => ?_⟩
      · refine ⟨((61 - (m + 1)), 0, 0), zlt6 (by omega), [some (zvr (k)), some (zvi (s)), some (zvl (x)), none, some (zvl (y)), none, some (zvi (n)), some (zvi ((m + 1)))], ⟨rfl, rfl, rfl, rfl, rfl, rfl, rfl⟩, (m + 1), rfl, rfl, rfl, rfl, rfl, rfl, (by omega), (by omega), ?_, (fun c j h0 => ((fr c j (by omega)).trans rfl))⟩
        · intro j hj
          by_cases e : j = m
          · rw [e]
            intro w
            have w1 := w.1
            have w2 := w.2.1
            have w3 := w.2.2.1
            have w4 := w.2.2.2
            omega
          · exact hno j (by omega)
      · refine And.intro (zDX hd 0 rfl) (zrdR (v := some (k + 12)) (zDR hd 11 rfl) ?_)
        refine And.intro (zDP hd 12 rfl rfl (by omega) (by omega)) (fun v64 e64 r64 => ?_)
        have f64 : v64 = dT d m 3 := (e64.trans ((congrArg (I1 (k + 12)) (by omega)).trans ((fr (k + 12) m (by omega)).trans (nT m (by omega)).2.1)))
        refine And.intro ⟨r64, (by omega)⟩ ⟨fun h67 => ?_, fun h67 => ?_⟩
        · refine ⟨((61 - (m + 1)), 0, 0), zlt6 (by omega), [some (zvr (k)), some (zvi (s)), some (zvl (x)), none, some (zvl (y)), none, some (zvi (n)), some (zvi ((m + 1)))], ⟨rfl, rfl, rfl, rfl, rfl, rfl, rfl⟩, (m + 1), rfl, rfl, rfl, rfl, rfl, rfl, (by omega), (by omega), ?_, (fun c j h0 => ((fr c j (by omega)).trans rfl))⟩
          · intro j hj
            by_cases e : j = m
            · rw [e]
              intro w
              have w1 := w.1
              have w2 := w.2.1
              have w3 := w.2.2.1
              have w4 := w.2.2.2
              omega
            · exact hno j (by omega)
        · refine And.intro (zDX hd 0 rfl) (zrdR (v := some (k + 13)) (zDR hd 12 rfl) ?_)
          refine And.intro (zDP hd 13 rfl rfl (by omega) (by omega)) (fun v78 e78 r78 => ?_)
          have f78 : v78 = dT d m 1 := (e78.trans ((congrArg (L1 (k + 13)) (by omega)).trans (nT m (by omega)).2.2.1))
          refine ⟨_, _, ⟨zW6i r78, zW6i (by omega)⟩, fun z80 c80 => ?_⟩
          refine And.intro c80.2.2 ⟨fun h81 => ?_, fun h81 => ?_⟩
          · refine ⟨((61 - (m + 1)), 0, 0), zlt6 (by omega), [some (zvr (k)), some (zvi (s)), some (zvl (x)), none, some (zvl (y)), none, some (zvi (n)), some (zvi ((m + 1)))], ⟨rfl, rfl, rfl, rfl, rfl, rfl, rfl⟩, (m + 1), rfl, rfl, rfl, rfl, rfl, rfl, (by omega), (by omega), ?_, (fun c j h0 => ((fr c j (by omega)).trans rfl))⟩
            · intro j hj
              by_cases e : j = m
              · rw [e]
                intro w
                have w1 := w.1
                have w2 := w.2.1
                have w3 := w.2.2.1
                have w4 := w.2.2.2
                omega
              · exact hno j (by omega)
          · refine And.intro (zDX hd 0 rfl) (zrdR (v := some (k + 13)) (zDR hd 12 rfl) ?_)
            refine And.intro (zDP hd 13 rfl rfl (by omega) (by omega)) (fun v94 e94 r94 => ?_)
            have f94 : v94 = dT d m 2 := (e94.trans ((congrArg (L1 (k + 13)) (by omega)).trans (nT m (by omega)).2.2.2))
            refine ⟨_, _, ⟨zW6i r94, zW6i (by omega)⟩, fun z97 c97 => ?_⟩
            refine And.intro c97.2.2 ⟨fun h98 => ?_, fun h98 => ?_⟩
            · refine ⟨((61 - (m + 1)), 0, 0), zlt6 (by omega), [some (zvr (k)), some (zvi (s)), some (zvl (x)), none, some (zvl (y)), none, some (zvi (n)), some (zvi ((m + 1)))], ⟨rfl, rfl, rfl, rfl, rfl, rfl, rfl⟩, (m + 1), rfl, rfl, rfl, rfl, rfl, rfl, (by omega), (by omega), ?_, (fun c j h0 => ((fr c j (by omega)).trans rfl))⟩
              · intro j hj
                by_cases e : j = m
                · rw [e]
                  intro w
                  have w1 := w.1
                  have w2 := w.2.1
                  have w3 := w.2.2.1
                  have w4 := w.2.2.2
                  omega
                · exact hno j (by omega)
            · refine hQ _ _ _ ?_ ?_ ?_ (fun c j h0 h1 h2 h3 h4 h5 h6 h7 h8 h9 h10 h11 => ((fr c j (by omega)).trans rfl)) (fun c j h0 => rfl)
              · first
                | (rw [show djTs d s x y n = d from if_neg (fun w => by first | omega | exact w.2 m (by omega) ⟨by omega, by omega, by omega, by omega⟩)]
                   first
                   | exact (zNJ_fr hNJ (fun c j h => zxcj (by omega) rfl) (fun c j h => rfl))
                   | exact (zNJ_fr hNJ (fun c j h => fr c j (by omega)) (fun c j h => rfl))
                   | exact hJG
                   | exact (fun hn => zJN_fr hn (fun c j h => zxcj (by omega) rfl))
                   | exact fun hn => zJN_fr hn (fun c j h => fr c j (by omega)))
                | (rw [show djTs d s x y n = djT d s x y n 0 from if_pos ⟨by omega, fun j hj => hno j (by omega)⟩]
                   exact p168hNJ2)
              · first
                | (rw [show djTs d s x y n = d from if_neg (fun w => by first | omega | exact w.2 m (by omega) ⟨by omega, by omega, by omega, by omega⟩)]
                   first
                   | exact (zNJ_fr hNJ (fun c j h => zxcj (by omega) rfl) (fun c j h => rfl))
                   | exact (zNJ_fr hNJ (fun c j h => fr c j (by omega)) (fun c j h => rfl))
                   | exact hJG
                   | exact (fun hn => zJN_fr hn (fun c j h => zxcj (by omega) rfl))
                   | exact fun hn => zJN_fr hn (fun c j h => fr c j (by omega)))
                | (rw [show djTs d s x y n = djT d s x y n 0 from if_pos ⟨by omega, fun j hj => hno j (by omega)⟩]
                   exact jGd_T hJG ⟨hs, hf_⟩ (by omega))
              · first
                | (rw [show djTs d s x y n = d from if_neg (fun w => by first | omega | exact w.2 m (by omega) ⟨by omega, by omega, by omega, by omega⟩)]
                   first
                   | exact (zNJ_fr hNJ (fun c j h => zxcj (by omega) rfl) (fun c j h => rfl))
                   | exact (zNJ_fr hNJ (fun c j h => fr c j (by omega)) (fun c j h => rfl))
                   | exact hJG
                   | exact (fun hn => zJN_fr hn (fun c j h => zxcj (by omega) rfl))
                   | exact fun hn => zJN_fr hn (fun c j h => fr c j (by omega)))
                | (rw [show djTs d s x y n = djT d s x y n 0 from if_pos ⟨by omega, fun j hj => hno j (by omega)⟩]
                   exact fun _ => p168bhJN2))
def T_J_shet : ZT := fun args I L R S Q => ∃ (k : Nat) (d : JdS) (p : Int) (o : Int), args = [zvr k, zvi p, zvi o] ∧ (zDy zT18 zF18 k R S) ∧ (zNJ k d I L) ∧ (jGd d) ∧ (dns d < 16) ∧ (-1 ≤ p ∧ p < dns d) ∧ (o = -1 ∨ (0 ≤ o ∧ o < dns d ∧ dbs d o.toNat = o)) ∧ ∀ (v : Int) (I' : ZI) (L' : ZI), (v = dns d) → (zNJ k (djS d p o) I' L') → (jGd (djS d p o)) → (zJN k d I → zJN k (djS d p o) I') → (∀ c j : Nat, ¬ (c = k ∧ j = 0) → ¬ (c = k ∧ j = 1) → ¬ c = k + 1 → ¬ c = k + 2 → ¬ (c = k ∧ j = 29) → ¬ (c = k ∧ j = 31) → ¬ (c = k ∧ j = 32) → ¬ c = k + 18 → ¬ c = k + 19 → ¬ c = k + 20 → ¬ c = k + 21 → ¬ c = k + 22 → I' c j = I c j) → (∀ c j : Nat, L' c j = L c j) → Q (some (zvi (v))) I' L' R S
theorem sn_J_shet : ZSnd 7 18 32 T_J_shet := ZSnd.of (zT18_32 6) (by
  rintro args I L R S Q hz ⟨k, d, p, o, rfl, hd, hNJ, hJG, hns, hp, ho, hQ⟩
  have h5 := hd.1
  obtain ⟨⟨n1, n2, n3, n4, n5, n6, n7⟩, nS, nW, nD, nJ, nL, nT, nO, nP, nR⟩ := id hNJ
  obtain ⟨⟨g1, g2, g3, g4, g5, g6⟩, gs, gw, gj, gl, gp, gt⟩ := id hJG
  refine And.intro rfl ?_
  refine And.intro ⟨(by omega), (zRb rfl)⟩ ⟨fun h2 => ?_, fun h2 => ?_⟩
  · refine And.intro ⟨(by omega), (zRb rfl)⟩ ⟨fun h15 => ?_, fun h15 => ?_⟩
    · refine And.intro (zRb rfl) (zbt rfl ?_)
      refine And.intro ⟨(by omega), (zRb rfl)⟩ ⟨fun h43 => ?_, (fun h43 => False.elim (by omega))⟩
      refine And.intro (zDX hd 0 rfl) ⟨_, (zWi (zRb rfl)), ?_⟩
      refine And.intro (zDX hd 0 rfl) (zrd (v := 0) zxe ?_)
      refine And.intro (zRb rfl) (zbt rfl ?_)
      refine And.intro (zDX hd 0 rfl) (zrd (v := (dns d)) (zxs (by decide) n1) ?_)
      refine And.intro ⟨(by omega), (zRb rfl)⟩ ⟨fun h79 => ?_, (fun h79 => False.elim (by omega))⟩
      refine And.intro (zDX hd 0 rfl) (zrdR (v := some (k + 1)) (zDR hd 0 rfl) ?_)
      refine And.intro (zDX hd 0 rfl) (zrd (v := (dns d)) (zxs (by decide) n1) ?_)
      refine And.intro ⟨(by show 40 ≤ _; omega), (zDP hd 1 rfl rfl (by omega) (by omega))⟩ ⟨_, (zWi (by omega)), ?_⟩
      refine And.intro (zDX hd 0 rfl) (zrdR (v := some (k + 2)) (zDR hd 1 rfl) ?_)
      refine And.intro (zDX hd 0 rfl) (zrd (v := (dns d)) (zxu (by omega) (zxs (by decide) n1)) ?_)
      refine And.intro ⟨(by omega), (zRb rfl)⟩ ⟨(fun h104 => False.elim (by omega)), fun h104 => ?_⟩
      refine And.intro (zDX hd 0 rfl) (zrd (v := (dns d)) (zxu (by omega) (zxs (by decide) n1)) ?_)
      refine And.intro ⟨(by show 40 ≤ _; omega), (zDP hd 2 rfl rfl (by omega) (by omega))⟩ ⟨_, (zWi (by omega)), ?_⟩
      refine And.intro (zDX hd 0 rfl) (zrd (v := (dns d)) (zxu (by omega) (zxu (by omega) (zxs (by decide) n1))) ?_)
      refine And.intro (zDX hd 0 rfl) ⟨_, (zWi (by omega)), ?_⟩
      refine And.intro (zDX hd 0 rfl) ⟨_, sn_J_anew.up (by decide), ?_⟩
      refine ⟨k, (djS d p o), rfl, hd, (zNJ_S hNJ (zxe.trans (by omega)) ⟨zxu (by omega) (zxu (by omega) (zxe' (by omega))), by first | (rw [if_pos (by omega)]; exact zxu (by omega) (zxe' (by omega))) | (rw [if_neg (by omega)]; exact zxu (by omega) ((zxe' (by omega)).trans (by omega)))⟩ (fun w hw => ⟨zxu (by omega) (zxu (by omega) (zxs (by omega) (zxu (by omega) rfl))), zxu (by omega) (zxs (by omega) (zxu (by omega) (zxu (by omega) rfl)))⟩) (fun c j h => zxcj (by omega) (zxu (by omega) (zxu (by omega) (zxcj (by omega) rfl)))) (fun c j h => rfl)), (jGd_S hJG hns hp ho), ?_⟩
      intro I127o p127hNJ2 p127bhJN2 p127bbfr
      refine And.intro (zDX hd 0 rfl) (zrd (v := ((dns d) + 1)) ((p127bbfr k 1 (by omega) (by omega) (by omega) (by omega) (by omega) (by omega) (by omega) (by omega)).trans zxe) ?_)
      refine hQ _ _ _ (by omega) p127hNJ2 (jGd_S hJG hns hp ho) (fun _ => p127bhJN2) (fun c j h0 h1 h2 h3 h4 h5 h6 h7 h8 h9 h10 h11 => ((p127bbfr c j (by omega) (by omega) (by omega) (by omega) (by omega) (by omega) (by omega) (by omega)).trans (zxcj h1 (zxu h3 (zxu h2 (zxcj h0 rfl)))))) (fun c j  => rfl)
    · refine And.intro (zDX hd 0 rfl) (Exists.intro _ (And.intro (zinl_ok (zT18_11 5)) (And.intro rfl ?_)))
      refine And.intro (by omega) ⟨(fun h1_20 => False.elim (by omega)), fun h1_20 => ?_⟩
      refine And.intro (zDX hd 0 rfl) (zrd (v := (dns d)) n1 ?_)
      refine And.intro ⟨(by omega), (by omega)⟩ ⟨(fun h9_20 => False.elim (by omega)), fun h9_20 => ?_⟩
      refine And.intro (Or.inr rfl) ?_
      refine And.intro (zRb rfl) (zbf rfl ?_)
      refine And.intro (zRb rfl) (zbt rfl ?_)
      refine And.intro ⟨(by omega), (zRb rfl)⟩ ⟨(fun h43 => False.elim (by omega)), fun h43 => ?_⟩
      refine And.intro (zDX hd 0 rfl) (zrdR (v := some (k + 2)) (zDR hd 1 rfl) ?_)
      refine And.intro (zDP hd 2 rfl rfl (by omega) (by omega)) (fun v51 e51 r51 => ?_)
      have f51 : v51 = dbs d o.toNat := (e51.trans ((congrArg (I (k + 2)) (by omega)).trans (nS o.toNat (by omega)).2))
      have f51b : v51 = o := (by omega)
      refine And.intro ⟨r51, (by omega)⟩ ⟨fun h53 => ?_, (fun h53 => False.elim (by omega))⟩
      refine And.intro (zDX hd 0 rfl) ⟨_, (zWi (zRb rfl)), ?_⟩
      refine And.intro (zDX hd 0 rfl) (zrd (v := 0) zxe ?_)
      refine And.intro (zRb rfl) (zbt rfl ?_)
      refine And.intro (zDX hd 0 rfl) (zrd (v := (dns d)) (zxs (by decide) n1) ?_)
      refine And.intro ⟨(by omega), (zRb rfl)⟩ ⟨fun h79 => ?_, (fun h79 => False.elim (by omega))⟩
      refine And.intro (zDX hd 0 rfl) (zrdR (v := some (k + 1)) (zDR hd 0 rfl) ?_)
      refine And.intro (zDX hd 0 rfl) (zrd (v := (dns d)) (zxs (by decide) n1) ?_)
      refine And.intro ⟨(by show 40 ≤ _; omega), (zDP hd 1 rfl rfl (by omega) (by omega))⟩ ⟨_, (zWi (by omega)), ?_⟩
      refine And.intro (zDX hd 0 rfl) (zrdR (v := some (k + 2)) (zDR hd 1 rfl) ?_)
      refine And.intro (zDX hd 0 rfl) (zrd (v := (dns d)) (zxu (by omega) (zxs (by decide) n1)) ?_)
      refine And.intro ⟨(by omega), (zRb rfl)⟩ ⟨fun h104 => ?_, (fun h104 => False.elim (by omega))⟩
      refine And.intro ⟨(by show 40 ≤ _; omega), (zDP hd 2 rfl rfl (by omega) (by omega))⟩ ⟨_, (zWi (by omega)), ?_⟩
      refine And.intro (zDX hd 0 rfl) (zrd (v := (dns d)) (zxu (by omega) (zxu (by omega) (zxs (by decide) n1))) ?_)
      refine And.intro (zDX hd 0 rfl) ⟨_, (zWi (by omega)), ?_⟩
      refine And.intro (zDX hd 0 rfl) ⟨_, sn_J_anew.up (by decide), ?_⟩
      refine ⟨k, (djS d p o), rfl, hd, (zNJ_S hNJ (zxe.trans (by omega)) ⟨zxu (by omega) (zxu (by omega) (zxe' (by omega))), by first | (rw [if_pos (by omega)]; exact zxu (by omega) (zxe' (by omega))) | (rw [if_neg (by omega)]; exact zxu (by omega) ((zxe' (by omega)).trans (by omega)))⟩ (fun w hw => ⟨zxu (by omega) (zxu (by omega) (zxs (by omega) (zxu (by omega) rfl))), zxu (by omega) (zxs (by omega) (zxu (by omega) (zxu (by omega) rfl)))⟩) (fun c j h => zxcj (by omega) (zxu (by omega) (zxu (by omega) (zxcj (by omega) rfl)))) (fun c j h => rfl)), (jGd_S hJG hns hp ho), ?_⟩
      intro I127o p127hNJ2 p127bhJN2 p127bbfr
      refine And.intro (zDX hd 0 rfl) (zrd (v := ((dns d) + 1)) ((p127bbfr k 1 (by omega) (by omega) (by omega) (by omega) (by omega) (by omega) (by omega) (by omega)).trans zxe) ?_)
      refine hQ _ _ _ (by omega) p127hNJ2 (jGd_S hJG hns hp ho) (fun _ => p127bhJN2) (fun c j h0 h1 h2 h3 h4 h5 h6 h7 h8 h9 h10 h11 => ((p127bbfr c j (by omega) (by omega) (by omega) (by omega) (by omega) (by omega) (by omega) (by omega)).trans (zxcj h1 (zxu h3 (zxu h2 (zxcj h0 rfl)))))) (fun c j  => rfl)
  · refine And.intro (zDX hd 0 rfl) (Exists.intro _ (And.intro (zinl_ok (zT18_11 5)) (And.intro rfl ?_)))
    refine And.intro (by omega) ⟨(fun h1_7 => False.elim (by omega)), fun h1_7 => ?_⟩
    refine And.intro (zDX hd 0 rfl) (zrd (v := (dns d)) n1 ?_)
    refine And.intro ⟨(by omega), (by omega)⟩ ⟨(fun h9_7 => False.elim (by omega)), fun h9_7 => ?_⟩
    refine And.intro (Or.inr rfl) ?_
    refine And.intro (zRb rfl) (zbf rfl ?_)
    refine And.intro ⟨(by omega), (zRb rfl)⟩ ⟨fun h15 => ?_, fun h15 => ?_⟩
    · refine And.intro (zRb rfl) (zbt rfl ?_)
      refine And.intro ⟨(by omega), (zRb rfl)⟩ ⟨fun h43 => ?_, (fun h43 => False.elim (by omega))⟩
      refine And.intro (zDX hd 0 rfl) ⟨_, (zWi (zRb rfl)), ?_⟩
      refine And.intro (zDX hd 0 rfl) (zrd (v := 0) zxe ?_)
      refine And.intro (zRb rfl) (zbt rfl ?_)
      refine And.intro (zDX hd 0 rfl) (zrd (v := (dns d)) (zxs (by decide) n1) ?_)
      refine And.intro ⟨(by omega), (zRb rfl)⟩ ⟨fun h79 => ?_, (fun h79 => False.elim (by omega))⟩
      refine And.intro (zDX hd 0 rfl) (zrdR (v := some (k + 1)) (zDR hd 0 rfl) ?_)
      refine And.intro (zDX hd 0 rfl) (zrd (v := (dns d)) (zxs (by decide) n1) ?_)
      refine And.intro ⟨(by show 40 ≤ _; omega), (zDP hd 1 rfl rfl (by omega) (by omega))⟩ ⟨_, (zWi (by omega)), ?_⟩
      refine And.intro (zDX hd 0 rfl) (zrdR (v := some (k + 2)) (zDR hd 1 rfl) ?_)
      refine And.intro (zDX hd 0 rfl) (zrd (v := (dns d)) (zxu (by omega) (zxs (by decide) n1)) ?_)
      refine And.intro ⟨(by omega), (zRb rfl)⟩ ⟨(fun h104 => False.elim (by omega)), fun h104 => ?_⟩
      refine And.intro (zDX hd 0 rfl) (zrd (v := (dns d)) (zxu (by omega) (zxs (by decide) n1)) ?_)
      refine And.intro ⟨(by show 40 ≤ _; omega), (zDP hd 2 rfl rfl (by omega) (by omega))⟩ ⟨_, (zWi (by omega)), ?_⟩
      refine And.intro (zDX hd 0 rfl) (zrd (v := (dns d)) (zxu (by omega) (zxu (by omega) (zxs (by decide) n1))) ?_)
      refine And.intro (zDX hd 0 rfl) ⟨_, (zWi (by omega)), ?_⟩
      refine And.intro (zDX hd 0 rfl) ⟨_, sn_J_anew.up (by decide), ?_⟩
      refine ⟨k, (djS d p o), rfl, hd, (zNJ_S hNJ (zxe.trans (by omega)) ⟨zxu (by omega) (zxu (by omega) (zxe' (by omega))), by first | (rw [if_pos (by omega)]; exact zxu (by omega) (zxe' (by omega))) | (rw [if_neg (by omega)]; exact zxu (by omega) ((zxe' (by omega)).trans (by omega)))⟩ (fun w hw => ⟨zxu (by omega) (zxu (by omega) (zxs (by omega) (zxu (by omega) rfl))), zxu (by omega) (zxs (by omega) (zxu (by omega) (zxu (by omega) rfl)))⟩) (fun c j h => zxcj (by omega) (zxu (by omega) (zxu (by omega) (zxcj (by omega) rfl)))) (fun c j h => rfl)), (jGd_S hJG hns hp ho), ?_⟩
      intro I127o p127hNJ2 p127bhJN2 p127bbfr
      refine And.intro (zDX hd 0 rfl) (zrd (v := ((dns d) + 1)) ((p127bbfr k 1 (by omega) (by omega) (by omega) (by omega) (by omega) (by omega) (by omega) (by omega)).trans zxe) ?_)
      refine hQ _ _ _ (by omega) p127hNJ2 (jGd_S hJG hns hp ho) (fun _ => p127bhJN2) (fun c j h0 h1 h2 h3 h4 h5 h6 h7 h8 h9 h10 h11 => ((p127bbfr c j (by omega) (by omega) (by omega) (by omega) (by omega) (by omega) (by omega) (by omega)).trans (zxcj h1 (zxu h3 (zxu h2 (zxcj h0 rfl)))))) (fun c j  => rfl)
    · refine And.intro (zDX hd 0 rfl) (Exists.intro _ (And.intro (zinl_ok (zT18_11 5)) (And.intro rfl ?_)))
      refine And.intro (by omega) ⟨(fun h1_20 => False.elim (by omega)), fun h1_20 => ?_⟩
      refine And.intro (zDX hd 0 rfl) (zrd (v := (dns d)) n1 ?_)
      refine And.intro ⟨(by omega), (by omega)⟩ ⟨(fun h9_20 => False.elim (by omega)), fun h9_20 => ?_⟩
      refine And.intro (Or.inr rfl) ?_
      refine And.intro (zRb rfl) (zbf rfl ?_)
      refine And.intro (zRb rfl) (zbt rfl ?_)
      refine And.intro ⟨(by omega), (zRb rfl)⟩ ⟨(fun h43 => False.elim (by omega)), fun h43 => ?_⟩
      refine And.intro (zDX hd 0 rfl) (zrdR (v := some (k + 2)) (zDR hd 1 rfl) ?_)
      refine And.intro (zDP hd 2 rfl rfl (by omega) (by omega)) (fun v51 e51 r51 => ?_)
      have f51 : v51 = dbs d o.toNat := (e51.trans ((congrArg (I (k + 2)) (by omega)).trans (nS o.toNat (by omega)).2))
      have f51b : v51 = o := (by omega)
      refine And.intro ⟨r51, (by omega)⟩ ⟨fun h53 => ?_, (fun h53 => False.elim (by omega))⟩
      refine And.intro (zDX hd 0 rfl) ⟨_, (zWi (zRb rfl)), ?_⟩
      refine And.intro (zDX hd 0 rfl) (zrd (v := 0) zxe ?_)
      refine And.intro (zRb rfl) (zbt rfl ?_)
      refine And.intro (zDX hd 0 rfl) (zrd (v := (dns d)) (zxs (by decide) n1) ?_)
      refine And.intro ⟨(by omega), (zRb rfl)⟩ ⟨fun h79 => ?_, (fun h79 => False.elim (by omega))⟩
      refine And.intro (zDX hd 0 rfl) (zrdR (v := some (k + 1)) (zDR hd 0 rfl) ?_)
      refine And.intro (zDX hd 0 rfl) (zrd (v := (dns d)) (zxs (by decide) n1) ?_)
      refine And.intro ⟨(by show 40 ≤ _; omega), (zDP hd 1 rfl rfl (by omega) (by omega))⟩ ⟨_, (zWi (by omega)), ?_⟩
      refine And.intro (zDX hd 0 rfl) (zrdR (v := some (k + 2)) (zDR hd 1 rfl) ?_)
      refine And.intro (zDX hd 0 rfl) (zrd (v := (dns d)) (zxu (by omega) (zxs (by decide) n1)) ?_)
      refine And.intro ⟨(by omega), (zRb rfl)⟩ ⟨fun h104 => ?_, (fun h104 => False.elim (by omega))⟩
      refine And.intro ⟨(by show 40 ≤ _; omega), (zDP hd 2 rfl rfl (by omega) (by omega))⟩ ⟨_, (zWi (by omega)), ?_⟩
      refine And.intro (zDX hd 0 rfl) (zrd (v := (dns d)) (zxu (by omega) (zxu (by omega) (zxs (by decide) n1))) ?_)
      refine And.intro (zDX hd 0 rfl) ⟨_, (zWi (by omega)), ?_⟩
      refine And.intro (zDX hd 0 rfl) ⟨_, sn_J_anew.up (by decide), ?_⟩
      refine ⟨k, (djS d p o), rfl, hd, (zNJ_S hNJ (zxe.trans (by omega)) ⟨zxu (by omega) (zxu (by omega) (zxe' (by omega))), by first | (rw [if_pos (by omega)]; exact zxu (by omega) (zxe' (by omega))) | (rw [if_neg (by omega)]; exact zxu (by omega) ((zxe' (by omega)).trans (by omega)))⟩ (fun w hw => ⟨zxu (by omega) (zxu (by omega) (zxs (by omega) (zxu (by omega) rfl))), zxu (by omega) (zxs (by omega) (zxu (by omega) (zxu (by omega) rfl)))⟩) (fun c j h => zxcj (by omega) (zxu (by omega) (zxu (by omega) (zxcj (by omega) rfl)))) (fun c j h => rfl)), (jGd_S hJG hns hp ho), ?_⟩
      intro I127o p127hNJ2 p127bhJN2 p127bbfr
      refine And.intro (zDX hd 0 rfl) (zrd (v := ((dns d) + 1)) ((p127bbfr k 1 (by omega) (by omega) (by omega) (by omega) (by omega) (by omega) (by omega) (by omega)).trans zxe) ?_)
      refine hQ _ _ _ (by omega) p127hNJ2 (jGd_S hJG hns hp ho) (fun _ => p127bhJN2) (fun c j h0 h1 h2 h3 h4 h5 h6 h7 h8 h9 h10 h11 => ((p127bbfr c j (by omega) (by omega) (by omega) (by omega) (by omega) (by omega) (by omega) (by omega)).trans (zxcj h1 (zxu h3 (zxu h2 (zxcj h0 rfl)))))) (fun c j  => rfl))
