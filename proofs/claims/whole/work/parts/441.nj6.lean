/-! nj6 -/
def T_J_port : ZT := fun args I L R S Q => ∃ (k : Nat) (d : JdS) (b : Int) (a : Int) (n : Int), args = [zvr k, zvi b, zvi a, zvi n] ∧ (zDy zT18 zF18 k R S) ∧ (zNJ k d I L) ∧ (jGd d) ∧ (0 ≤ b ∧ b < dns d ∧ 0 ≤ dpr d b.toNat) ∧ (0 ≤ a ∧ a < dnl d ∧ dL d a.toNat 0 = dbs d b.toNat) ∧ (n = dL d a.toNat 3) ∧ (0 ≤ n ∧ n < 1000) ∧ ∀ (v : Int) (I' : ZI) (L' : ZI), (zNJ k (djPu d a b) I' L') → (jGd (djPu d a b)) → (zJN k d I → zJN k (djPu d a b) I') → (∀ c j : Nat, ¬ (c = k ∧ j = 0) → ¬ (c = k ∧ j = 20) → ¬ c = k + 15 → ¬ (c = k ∧ j = 29) → ¬ (c = k ∧ j = 31) → ¬ (c = k ∧ j = 32) → ¬ c = k + 18 → ¬ c = k + 19 → ¬ c = k + 20 → ¬ c = k + 21 → ¬ c = k + 22 → I' c j = I c j) → (∀ c j : Nat, L' c j = L c j) → Q (some (zvi (v))) I' L' R S
theorem sn_J_port : ZSnd 7 18 30 T_J_port := ZSnd.loops (zT18_30 6) (by
  rintro args I L R S Q hz ⟨k, d, b, a, n, rfl, hd, hNJ, hJG, hb, ha, hn, hn9, hQ⟩
  have h5 := hd.1
  obtain ⟨⟨n1, n2, n3, n4, n5, n6, n7⟩, nS, nW, nD, nJ, nL, nT, nO, nP, nR⟩ := id hNJ
  obtain ⟨⟨g1, g2, g3, g4, g5, g6⟩, gs, gw, gj, gl, gp, gt⟩ := id hJG
  refine ⟨[102], fun nM tM lsM stM I1 L1 R1 S1 => match tM with
      | 102 => ∃ (m : Nat), nM = ((31 - m), 0, 0) ∧ lsM = [some (zvr (k)), some (zvi (b)), some (zvi (a)), some (zvi (n)), none, some (zvi (m))] ∧ stM = [] ∧ L1 = L ∧ R1 = R ∧ S1 = S ∧ (m ≤ dnp d) ∧ (dnp d < 30) ∧ (∀ j : Nat, j < m → ¬ (dP d j 1 = b ∧ dP d j 0 = a)) ∧ (∀ c j : Nat, ¬ (c = k ∧ j = 0) → I1 c j = I c j)
      | _ => False, rfl, ?_, ⟨?_, True.intro⟩⟩
  · refine And.intro (zDX hd 0 rfl) (Exists.intro _ (And.intro (zinl_ok (zT18_11 5)) (And.intro rfl ?_)))
    refine And.intro (by omega) ⟨(fun h1_2 => False.elim (by omega)), fun h1_2 => ?_⟩
    refine And.intro (zDX hd 0 rfl) (zrd (v := (dns d)) n1 ?_)
    refine And.intro ⟨(by omega), (by omega)⟩ ⟨(fun h9_2 => False.elim (by omega)), fun h9_2 => ?_⟩
    refine And.intro (Or.inr rfl) ?_
    refine And.intro (zRb rfl) (zbf rfl ?_)
    refine And.intro (by omega) ⟨(fun h9 => False.elim (by omega)), fun h9 => ?_⟩
    refine And.intro (zDX hd 0 rfl) (zrd (v := (dnl d)) n4 ?_)
    refine And.intro ⟨(by omega), (by omega)⟩ ⟨(fun h17 => False.elim (by omega)), fun h17 => ?_⟩
    refine And.intro (zDX hd 0 rfl) (zrdR (v := some (k + 8)) (zDR hd 7 rfl) ?_)
    refine And.intro (zDP hd 8 rfl rfl (by omega) (by omega)) (fun v25 e25 r25 => ?_)
    have f25 : v25 = dL d a.toNat 0 := (e25.trans ((congrArg (I (k + 8)) (by omega)).trans (nL a.toNat (by omega)).1))
    refine And.intro (zDX hd 0 rfl) (zrdR (v := some (k + 2)) (zDR hd 1 rfl) ?_)
    refine And.intro (zDP hd 2 rfl rfl (by omega) (by omega)) (fun v31 e31 r31 => ?_)
    have f31 : v31 = dbs d b.toNat := (e31.trans ((congrArg (I (k + 2)) (by omega)).trans (nS b.toNat (by omega)).2))
    have f31b : v31 = v25 := (by omega)
    refine And.intro ⟨r25, r31⟩ ⟨(fun h32 => False.elim (by omega)), fun h32 => ?_⟩
    refine And.intro (zRb rfl) (zbt rfl ?_)
    refine And.intro (zDX hd 0 rfl) (zrdR (v := some (k + 1)) (zDR hd 0 rfl) ?_)
    refine And.intro (zDP hd 1 rfl rfl (by omega) (by omega)) (fun v57 e57 r57 => ?_)
    have f57 : v57 = dpr d b.toNat := (e57.trans ((congrArg (I (k + 1)) (by omega)).trans (nS b.toNat (by omega)).1))
    have f57b : 0 ≤ v57 := (by omega)
    refine And.intro ⟨r57, (zRb rfl)⟩ ⟨fun h59 => ?_, (fun h59 => False.elim (by omega))⟩
    refine Exists.intro _ (And.intro (zinl_ok (zT18_8 5)) (And.intro rfl ?_))
    refine And.intro (by omega) ⟨(fun h1_67 => False.elim (by omega)), fun h1_67 => ?_⟩
    refine And.intro ⟨(by omega), (zRb rfl)⟩ ⟨(fun h8_67 => False.elim (by omega)), fun h8_67 => ?_⟩
    refine And.intro (Or.inr rfl) ?_
    refine And.intro (zRb rfl) (zbf rfl ?_)
    refine And.intro (zDX hd 0 rfl) ⟨_, (zWi (zRb rfl)), ?_⟩
    refine And.intro (zDX hd 0 rfl) (zrd (v := 0) zxe ?_)
    refine And.intro (zRb rfl) (zbf rfl ?_)
    refine And.intro (zDX hd 0 rfl) (zrd (v := (dnp d)) (zxs (by decide) n6) ?_)
    refine And.intro ⟨(by omega), (zRb rfl)⟩ ⟨fun h94 => ?_, fun h94 => ?_⟩
    · refine ⟨((31 - (0 : Nat)), 0, 0), [some (zvr (k)), some (zvi (b)), some (zvi (a)), some (zvi (n)), none, some (zvi ((0 : Nat)))], ⟨rfl, rfl, rfl, rfl, rfl, rfl⟩, 0, rfl, rfl, rfl, rfl, rfl, rfl, (by omega), (by omega), (fun j h => absurd h (Nat.not_lt_zero j)), (fun c j h0 => (zxcj h0 rfl))⟩
    · refine And.intro (Or.inl rfl) ?_
      refine hQ _ _ _ ?_ ?_ ?_ (fun c j h0 h1 h2 h3 h4 h5 h6 h7 h8 h9 h10 => (zxcj h0 rfl)) (fun c j  => rfl)
      · first
        | (rw [show djPu d a b = d from if_neg (fun w => by first | omega | exact w.2 m (by omega) ⟨by omega, by omega⟩)]
           first
           | exact (zNJ_fr hNJ (fun c j h => zxcj (by omega) rfl) (fun c j h => rfl))
           | exact (zNJ_fr hNJ (fun c j h => fr c j (by omega)) (fun c j h => rfl))
           | exact hJG
           | exact (fun hn => zJN_fr hn (fun c j h => zxcj (by omega) rfl))
           | exact fun hn => zJN_fr hn (fun c j h => fr c j (by omega)))
        | (rw [show djPu d a b = djP d a b 0 0 0 from if_pos ⟨by omega, fun j hj => hno j (by omega)⟩]
           exact p213hNJ2)
      · first
        | (rw [show djPu d a b = d from if_neg (fun w => by first | omega | exact w.2 m (by omega) ⟨by omega, by omega⟩)]
           first
           | exact (zNJ_fr hNJ (fun c j h => zxcj (by omega) rfl) (fun c j h => rfl))
           | exact (zNJ_fr hNJ (fun c j h => fr c j (by omega)) (fun c j h => rfl))
           | exact hJG
           | exact (fun hn => zJN_fr hn (fun c j h => zxcj (by omega) rfl))
           | exact fun hn => zJN_fr hn (fun c j h => fr c j (by omega)))
        | (rw [show djPu d a b = djP d a b 0 0 0 from if_pos ⟨by omega, fun j hj => hno j (by omega)⟩]
           exact jGd_P hJG ⟨⟨ha.1, ha.2.1⟩, ⟨hb.1, hb.2.1⟩, ha.2.2, hb.2.2⟩ (by omega))
      · first
        | (rw [show djPu d a b = d from if_neg (fun w => by first | omega | exact w.2 m (by omega) ⟨by omega, by omega⟩)]
           first
           | exact (zNJ_fr hNJ (fun c j h => zxcj (by omega) rfl) (fun c j h => rfl))
           | exact (zNJ_fr hNJ (fun c j h => fr c j (by omega)) (fun c j h => rfl))
           | exact hJG
           | exact (fun hn => zJN_fr hn (fun c j h => zxcj (by omega) rfl))
           | exact fun hn => zJN_fr hn (fun c j h => fr c j (by omega)))
        | (rw [show djPu d a b = djP d a b 0 0 0 from if_pos ⟨by omega, fun j hj => hno j (by omega)⟩]
           exact fun _ => p213bhJN2)
  · rintro nM lsM stM I1 L1 R1 S1 hz1 ⟨m, rfl, rfl, rfl, rfl, rfl, rfl, hm, hr5, hno, fr⟩
    refine And.intro (zDX hd 0 rfl) (zrd (v := (dnp d)) ((fr k 20 (by omega)).trans n6) ?_)
    refine And.intro ⟨(by omega), (by omega)⟩ ⟨fun h108 => ?_, fun h108 => ?_⟩
    · refine And.intro (zDX hd 0 rfl) (zrdR (v := some (k + 15)) (zDR hd 14 rfl) ?_)
      refine And.intro (zDX hd 0 rfl) (zrd (v := (dnp d)) ((fr k 20 (by omega)).trans n6) ?_)
      refine And.intro ⟨(by show 40 ≤ _; omega), (zDP hd 15 rfl rfl (by omega) (by omega))⟩ ⟨_, (zWi (by omega)), ?_⟩
      refine And.intro (zDX hd 0 rfl) (zrdR (v := some (k + 15)) (zDR hd 14 rfl) ?_)
      refine And.intro (zDX hd 0 rfl) (zrd (v := (dnp d)) (zxu (by omega) ((fr k 20 (by omega)).trans n6)) ?_)
      refine And.intro ⟨(by show 40 ≤ _; omega), (zDP hd 15 rfl rfl (by omega) (by omega))⟩ ⟨_, (zWi (by omega)), ?_⟩
      refine And.intro (zDX hd 0 rfl) (zrdR (v := some (k + 15)) (zDR hd 14 rfl) ?_)
      refine And.intro (zDX hd 0 rfl) (zrd (v := (dnp d)) (zxu (by omega) (zxu (by omega) ((fr k 20 (by omega)).trans n6))) ?_)
      refine And.intro ⟨(by show 40 ≤ _; omega), (zDP hd 15 rfl rfl (by omega) (by omega))⟩ ⟨_, (zWi (by omega)), ?_⟩
      refine And.intro (zDX hd 0 rfl) (zrd (v := (dnp d)) (zxu (by omega) (zxu (by omega) (zxu (by omega) ((fr k 20 (by omega)).trans n6)))) ?_)
      refine And.intro (zDX hd 0 rfl) ⟨_, (zWi (by omega)), ?_⟩
      refine And.intro (zDX hd 0 rfl) ⟨_, sn_J_anew.up (by decide), ?_⟩
      refine ⟨k, (djP d a b 0 0 0), rfl, hd, (zNJ_P hNJ (zxe.trans (by omega)) ⟨zxu (by omega) (zxs (by omega) (zxs (by omega) (zxe' (by omega)))), zxu (by omega) (zxs (by omega) (zxe' (by omega))), zxu (by omega) ((zxe' (by omega)).trans hn)⟩ (fun j hj => zxu (by omega) (zxs (by omega) (zxs (by omega) (zxs (by omega) (fr _ _ (by omega)))))) (fun c j h => zxcj (by omega) (zxu (by omega) (zxu (by omega) (zxu (by omega) (fr _ _ (by omega)))))) (fun c j h => rfl)), (jGd_P hJG ⟨⟨ha.1, ha.2.1⟩, ⟨hb.1, hb.2.1⟩, ha.2.2, hb.2.2⟩ (by omega)), ?_⟩
      intro I213o p213hNJ2 p213bhJN2 p213bbfr
      refine And.intro (Or.inr rfl) ?_
      refine hQ _ _ _ ?_ ?_ ?_ (fun c j h0 h1 h2 h3 h4 h5 h6 h7 h8 h9 h10 => ((p213bbfr c j (by omega) (by omega) (by omega) (by omega) (by omega) (by omega) (by omega) (by omega)).trans (zxcj h1 (zxu h2 (zxu h2 (zxu h2 ((fr c j (by omega)).trans rfl))))))) (fun c j  => rfl)
      · first
        | (rw [show djPu d a b = d from if_neg (fun w => by first | omega | exact w.2 m (by omega) ⟨by omega, by omega⟩)]
           first
           | exact (zNJ_fr hNJ (fun c j h => zxcj (by omega) rfl) (fun c j h => rfl))
           | exact (zNJ_fr hNJ (fun c j h => fr c j (by omega)) (fun c j h => rfl))
           | exact hJG
           | exact (fun hn => zJN_fr hn (fun c j h => zxcj (by omega) rfl))
           | exact fun hn => zJN_fr hn (fun c j h => fr c j (by omega)))
        | (rw [show djPu d a b = djP d a b 0 0 0 from if_pos ⟨by omega, fun j hj => hno j (by omega)⟩]
           exact p213hNJ2)
      · first
        | (rw [show djPu d a b = d from if_neg (fun w => by first | omega | exact w.2 m (by omega) ⟨by omega, by omega⟩)]
           first
           | exact (zNJ_fr hNJ (fun c j h => zxcj (by omega) rfl) (fun c j h => rfl))
           | exact (zNJ_fr hNJ (fun c j h => fr c j (by omega)) (fun c j h => rfl))
           | exact hJG
           | exact (fun hn => zJN_fr hn (fun c j h => zxcj (by omega) rfl))
           | exact fun hn => zJN_fr hn (fun c j h => fr c j (by omega)))
        | (rw [show djPu d a b = djP d a b 0 0 0 from if_pos ⟨by omega, fun j hj => hno j (by omega)⟩]
           exact jGd_P hJG ⟨⟨ha.1, ha.2.1⟩, ⟨hb.1, hb.2.1⟩, ha.2.2, hb.2.2⟩ (by omega))
      · first
        | (rw [show djPu d a b = d from if_neg (fun w => by first | omega | exact w.2 m (by omega) ⟨by omega, by omega⟩)]
           first
           | exact (zNJ_fr hNJ (fun c j h => zxcj (by omega) rfl) (fun c j h => rfl))
           | exact (zNJ_fr hNJ (fun c j h => fr c j (by omega)) (fun c j h => rfl))
           | exact hJG
           | exact (fun hn => zJN_fr hn (fun c j h => zxcj (by omega) rfl))
           | exact fun hn => zJN_fr hn (fun c j h => fr c j (by omega)))
        | (rw [show djPu d a b = djP d a b 0 0 0 from if_pos ⟨by omega, fun j hj => hno j (by omega)⟩]
           exact fun _ => p213bhJN2)
    · refine And.intro (zDX hd 0 rfl) (zrdR (v := some (k + 15)) (zDR hd 14 rfl) ?_)
      refine And.intro (zDP hd 15 rfl rfl (by omega) (by omega)) (fun v119 e119 r119 => ?_)
      have f119 : v119 = dP d m 1 := (e119.trans ((congrArg (I1 (k + 15)) (by omega)).trans ((fr (k + 15) (3 * m + 0) (by omega)).trans (nP m (by omega)).1)))
      refine And.intro ⟨r119, (by omega)⟩ ⟨fun h121 => ?_, fun h121 => ?_⟩
      · refine ⟨((31 - (m + 1)), 0, 0), zlt6 (by omega), [some (zvr (k)), some (zvi (b)), some (zvi (a)), some (zvi (n)), none, some (zvi ((m + 1)))], ⟨rfl, rfl, rfl, rfl, rfl, rfl⟩, (m + 1), rfl, rfl, rfl, rfl, rfl, rfl, (by omega), (by omega), ?_, (fun c j h0 => ((fr c j (by omega)).trans rfl))⟩
        · intro j hj
          by_cases e : j = m
          · rw [e]
            intro w
            have w1 := w.1
            have w2 := w.2
            omega
          · exact hno j (by omega)
      · refine And.intro (zDX hd 0 rfl) (zrdR (v := some (k + 15)) (zDR hd 14 rfl) ?_)
        refine And.intro (zDP hd 15 rfl rfl (by omega) (by omega)) (fun v134 e134 r134 => ?_)
        have f134 : v134 = dP d m 0 := (e134.trans ((congrArg (I1 (k + 15)) (by omega)).trans ((fr (k + 15) (3 * m + 1) (by omega)).trans (nP m (by omega)).2.1)))
        refine And.intro ⟨r134, (by omega)⟩ ⟨fun h136 => ?_, fun h136 => ?_⟩
        · refine ⟨((31 - (m + 1)), 0, 0), zlt6 (by omega), [some (zvr (k)), some (zvi (b)), some (zvi (a)), some (zvi (n)), none, some (zvi ((m + 1)))], ⟨rfl, rfl, rfl, rfl, rfl, rfl⟩, (m + 1), rfl, rfl, rfl, rfl, rfl, rfl, (by omega), (by omega), ?_, (fun c j h0 => ((fr c j (by omega)).trans rfl))⟩
          · intro j hj
            by_cases e : j = m
            · rw [e]
              intro w
              have w1 := w.1
              have w2 := w.2
              omega
            · exact hno j (by omega)
        · refine And.intro (zDX hd 0 rfl) (zrdR (v := some (k + 15)) (zDR hd 14 rfl) ?_)
          refine And.intro (zDP hd 15 rfl rfl (by omega) (by omega)) (fun v149 e149 r149 => ?_)
          have f149 : v149 = dL d (dP d m 0).toNat 3 := (e149.trans ((congrArg (I1 (k + 15)) (by omega)).trans ((fr (k + 15) (3 * m + 2) (by omega)).trans (nP m (by omega)).2.2)))
          have f149b : v149 = n := (by rw [show (dP d m 0).toNat = a.toNat by omega] at f149; omega)
          refine And.intro ⟨r149, (by omega)⟩ ⟨(fun h151 => False.elim (by omega)), fun h151 => ?_⟩
          refine And.intro (Or.inl rfl) ?_
          refine hQ _ _ _ ?_ ?_ ?_ (fun c j h0 h1 h2 h3 h4 h5 h6 h7 h8 h9 h10 => ((fr c j (by omega)).trans rfl)) (fun c j  => rfl)
          · first
            | (rw [show djPu d a b = d from if_neg (fun w => by first | omega | exact w.2 m (by omega) ⟨by omega, by omega⟩)]
               first
               | exact (zNJ_fr hNJ (fun c j h => zxcj (by omega) rfl) (fun c j h => rfl))
               | exact (zNJ_fr hNJ (fun c j h => fr c j (by omega)) (fun c j h => rfl))
               | exact hJG
               | exact (fun hn => zJN_fr hn (fun c j h => zxcj (by omega) rfl))
               | exact fun hn => zJN_fr hn (fun c j h => fr c j (by omega)))
            | (rw [show djPu d a b = djP d a b 0 0 0 from if_pos ⟨by omega, fun j hj => hno j (by omega)⟩]
               exact p213hNJ2)
          · first
            | (rw [show djPu d a b = d from if_neg (fun w => by first | omega | exact w.2 m (by omega) ⟨by omega, by omega⟩)]
               first
               | exact (zNJ_fr hNJ (fun c j h => zxcj (by omega) rfl) (fun c j h => rfl))
               | exact (zNJ_fr hNJ (fun c j h => fr c j (by omega)) (fun c j h => rfl))
               | exact hJG
               | exact (fun hn => zJN_fr hn (fun c j h => zxcj (by omega) rfl))
               | exact fun hn => zJN_fr hn (fun c j h => fr c j (by omega)))
            | (rw [show djPu d a b = djP d a b 0 0 0 from if_pos ⟨by omega, fun j hj => hno j (by omega)⟩]
               exact jGd_P hJG ⟨⟨ha.1, ha.2.1⟩, ⟨hb.1, hb.2.1⟩, ha.2.2, hb.2.2⟩ (by omega))
          · first
            | (rw [show djPu d a b = d from if_neg (fun w => by first | omega | exact w.2 m (by omega) ⟨by omega, by omega⟩)]
               first
               | exact (zNJ_fr hNJ (fun c j h => zxcj (by omega) rfl) (fun c j h => rfl))
               | exact (zNJ_fr hNJ (fun c j h => fr c j (by omega)) (fun c j h => rfl))
               | exact hJG
               | exact (fun hn => zJN_fr hn (fun c j h => zxcj (by omega) rfl))
               | exact fun hn => zJN_fr hn (fun c j h => fr c j (by omega)))
            | (rw [show djPu d a b = djP d a b 0 0 0 from if_pos ⟨by omega, fun j hj => hno j (by omega)⟩]
               exact fun _ => p213bhJN2))
