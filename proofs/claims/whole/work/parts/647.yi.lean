/-! yi -/
def T_Y_hof1 : ZT := fun args I L R S Q => ∃ (k : Nat) (q : Nat) (d : Nat) (g : Nat) (w : List CuR) (pc : Nat) (s : BdS) (net : Int) (l : Nat) (D : Int), args = [zvr 165, zvi net, zvi l] ∧ (zSh S) ∧ (zRs R) ∧ (R 165 32 = some k) ∧ (zDy zT14 zF14 k R S) ∧ (R 165 31 = some q) ∧ (zDy zT15 zF15 q R S) ∧ (R 165 43 = some d) ∧ (zDy zT16 zF16 d R S) ∧ (R 165 12 = some g) ∧ (zDy zT17 zF17 g R S) ∧ (zBB g (-1) s I L) ∧ (bGd s) ∧ (zMK k q d w pc D I L) ∧ ((302 ≤ k ∧ 302 ≤ q ∧ 302 ≤ d ∧ 302 ≤ g) ∧ (k + 17 < q ∨ q + 13 < k) ∧ (k + 17 < d ∨ d + 21 < k) ∧ (q + 13 < d ∨ d + 21 < q) ∧ (g + 18 < k ∨ k + 17 < g) ∧ (g + 18 < q ∨ q + 13 < g) ∧ (g + 18 < d ∨ d + 21 < g)) ∧ (w.length + (cuH1 s net l (bH s)).length ≤ 60) ∧ ((0 ≤ net ∧ net ≤ 11) ∧ l ≤ 2 ∧ (l : Int) + 1 < D) ∧ ∀ (I' : ZI) (L' : ZI), (zMK k q d (w ++ cuH1 s net l (bH s)) pc D I' L') → (∀ c j : Nat, ¬ (c = 165 ∧ j = 42) → ¬ (c = 165 ∧ j = 35) → ¬ c = 208 → ¬ c = 209 → ¬ c = 210 → ¬ (k ≤ c ∧ c ≤ k + 17) → ¬ (q ≤ c ∧ c ≤ q + 13) → ¬ (d ≤ c ∧ c ≤ d + 21) → I' c j = I c j) → (∀ c j : Nat, ¬ (k ≤ c ∧ c ≤ k + 17) → ¬ (q ≤ c ∧ c ≤ q + 13) → ¬ (d ≤ c ∧ c ≤ d + 21) → L' c j = L c j) → Q none I' L' R S
theorem sn_Y_hof1 : ZSnd 5 21 29 T_Y_hof1 := ZSnd.loops (zT21_29 4) (by
  rintro args I L R S Q hz ⟨k, q, d, g, w, pc, s, net, l, D, rfl, hS, hR, hrf, hd, hrc, hdq, hrd, hdd, hg, hdg, hBB, hGd, hMK, hdis, hlen, hr, hQ⟩
  obtain ⟨⟨hbw, hbh, hbd, -, -⟩, -⟩ := id hBB
  obtain ⟨⟨⟨gW1, gW2⟩, ⟨gH1, gH2⟩, ⟨gD1, gD2⟩, gB9⟩, -⟩ := id hGd
  refine ⟨[2, 16], fun nM tM lsM stM I1 L1 R1 S1 => match tM with
      | 2 => ∃ (j : Nat), nM = ((20 - j), 99, 0) ∧ lsM = [some (zvr (165)), some (zvi (net)), some (zvi (l)), some (zvi (j)), none] ∧ stM = [] ∧ R1 = R ∧ S1 = S ∧ (j ≤ bH s) ∧ (zMK k q d (w ++ cuH1 s net l j) pc D I1 L1) ∧ (∀ c j : Nat, ¬ (c = 165 ∧ j = 42) → ¬ (c = 165 ∧ j = 35) → ¬ c = 208 → ¬ c = 209 → ¬ c = 210 → ¬ (k ≤ c ∧ c ≤ k + 17) → ¬ (q ≤ c ∧ c ≤ q + 13) → ¬ (d ≤ c ∧ c ≤ d + 21) → I1 c j = I c j) ∧ (∀ c j : Nat, ¬ (k ≤ c ∧ c ≤ k + 17) → ¬ (q ≤ c ∧ c ≤ q + 13) → ¬ (d ≤ c ∧ c ≤ d + 21) → L1 c j = L c j)
      | 16 => ∃ (j : Nat) (i : Nat), nM = ((20 - j), (20 - i), 0) ∧ lsM = [some (zvr (165)), some (zvi (net)), some (zvi (l)), some (zvi (j)), some (zvi (i))] ∧ stM = [] ∧ R1 = R ∧ S1 = S ∧ (j < bH s) ∧ (i ≤ bW s) ∧ (zMK k q d (w ++ cuH1 s net l j ++ cuH2 s net l j i) pc D I1 L1) ∧ (∀ c j : Nat, ¬ (c = 165 ∧ j = 42) → ¬ (c = 165 ∧ j = 35) → ¬ c = 208 → ¬ c = 209 → ¬ c = 210 → ¬ (k ≤ c ∧ c ≤ k + 17) → ¬ (q ≤ c ∧ c ≤ q + 13) → ¬ (d ≤ c ∧ c ≤ d + 21) → I1 c j = I c j) ∧ (∀ c j : Nat, ¬ (k ≤ c ∧ c ≤ k + 17) → ¬ (q ≤ c ∧ c ≤ q + 13) → ¬ (d ≤ c ∧ c ≤ d + 21) → L1 c j = L c j)
      | _ => False, rfl, ?_, ⟨?_, ?_, True.intro⟩⟩
  · refine ⟨((20 - (0 : Nat)), 99, 0), [some (zvr (165)), some (zvi (net)), some (zvi (l)), some (zvi ((0 : Nat))), none], ⟨rfl, rfl, rfl, rfl, rfl⟩, 0, rfl, rfl, rfl, rfl, rfl, (by omega), (zMK_e hMK (List.append_nil w).symm), (fun c j h0 h1 h2 h3 h4 h5 h6 h7 => rfl), (fun c j h0 h1 h2 => rfl)⟩
  · rintro nM lsM stM I1 L1 R1 S1 hz1 ⟨j, rfl, rfl, rfl, rfl, rfl, hj, hM, fr, frL⟩
    have hbw1 : I1 g 1 = bW s := (fr g 1 (by omega) (by omega) (by omega) (by omega) (by omega) (by omega) (by omega) (by omega)).trans hbw
    have hbh1 : I1 g 2 = bH s := (fr g 2 (by omega) (by omega) (by omega) (by omega) (by omega) (by omega) (by omega) (by omega)).trans hbh
    refine And.intro (zA_165 hS) (zrdR (v := some g) hg ?_)
    refine And.intro (zDX hdg 0 rfl) (fun v7 e7 r7 => ?_)
    refine And.intro ⟨(by omega), r7⟩ ⟨fun h10 => ?_, fun h10 => ?_⟩
    · refine hQ _ _ (by have e9 : j = bH s := (by omega); subst e9; exact hM) (fun c j h0 h1 h2 h3 h4 h5 h6 h7 => ((fr c j h0 h1 h2 h3 h4 (by omega) (by omega) (by omega)).trans rfl)) (fun c j h0 h1 h2 => ((frL c j (by omega) (by omega) (by omega)).trans rfl))
    · refine ⟨((20 - j), (20 - (0 : Nat)), 0), zlt6 (by omega), [some (zvr (165)), some (zvi (net)), some (zvi (l)), some (zvi (j)), some (zvi ((0 : Nat)))], ⟨rfl, rfl, rfl, rfl, rfl, rfl⟩, j, 0, rfl, rfl, rfl, rfl, rfl, (by omega), (by omega), (zMK_e hM (List.append_nil _).symm), (fun c j h0 h1 h2 h3 h4 h5 h6 h7 => ((fr c j h0 h1 h2 h3 h4 (by omega) (by omega) (by omega)).trans rfl)), (fun c j h0 h1 h2 => ((frL c j (by omega) (by omega) (by omega)).trans rfl))⟩
  · rintro nM lsM stM I1 L1 R1 S1 hz1 ⟨j, i, rfl, rfl, rfl, rfl, rfl, hj, hi, hM, fr, frL⟩
    have hbw1 : I1 g 1 = bW s := (fr g 1 (by omega) (by omega) (by omega) (by omega) (by omega) (by omega) (by omega) (by omega)).trans hbw
    have hbh1 : I1 g 2 = bH s := (fr g 2 (by omega) (by omega) (by omega) (by omega) (by omega) (by omega) (by omega) (by omega)).trans hbh
    obtain ⟨⟨m1, m2⟩, ⟨m3, m4⟩, ⟨m5, m6, m7⟩, ⟨m8, m9, m10⟩, m11, m12⟩ := id hM
    have hlw : (w ++ cuH1 s net l j ++ cuH2 s net l j i).length = w.length + (cuH1 s net l j).length + (cuH2 s net l j i).length := (by rw [List.length_append, List.length_append])
    refine And.intro (zA_165 hS) (zrdR (v := some g) hg ?_)
    refine And.intro (zDX hdg 0 rfl) (fun v22 e22 r22 => ?_)
    refine And.intro ⟨(by omega), r22⟩ ⟨fun h25 => ?_, fun h25 => ?_⟩
    · refine ⟨((20 - (j + 1)), 99, 0), zlt6 (by omega), [some (zvr (165)), some (zvi (net)), some (zvi (l)), some (zvi ((j + 1))), none], ⟨rfl, rfl, rfl, rfl, rfl⟩, (j + 1), rfl, rfl, rfl, rfl, rfl, (by omega), (by have e9 : i = bW s := (by omega); subst e9; exact zMK_e hM (by rw [cuH1_s, List.append_assoc])), (fun c j h0 h1 h2 h3 h4 h5 h6 h7 => ((fr c j h0 h1 h2 h3 h4 (by omega) (by omega) (by omega)).trans rfl)), (fun c j h0 h1 h2 => ((frL c j (by omega) (by omega) (by omega)).trans rfl))⟩
    · refine And.intro (zA_165 hS) ⟨_, sn_Y_hld.up (by decide), ?_⟩
      refine ⟨g, s, (net : Int), (l : Int), (i : Int), (j : Int), rfl, hS, hR, hg, hdg, (by omega), (zBB_fr hBB (fun c j h => fr c j (by omega) (by omega) (by omega) (by omega) (by omega) (by omega) (by omega) (by omega)) (fun c j h => frL c j (by omega) (by omega) (by omega))), (by first | exact hGd | (clear hQ; grind [xu])), (by omega), ?_⟩
      intro v34o p34hv p34bhv2
      refine And.intro (by omega) ⟨fun h37 => ?_, fun h37 => ?_⟩
      · refine ⟨((20 - j), (20 - (i + 1)), 0), zlt6 (by omega), [some (zvr (165)), some (zvi (net)), some (zvi (l)), some (zvi (j)), some (zvi ((i + 1)))], ⟨rfl, rfl, rfl, rfl, rfl, rfl⟩, j, (i + 1), rfl, rfl, rfl, rfl, rfl, (by omega), (by omega), ?_, (fun c j h0 h1 h2 h3 h4 h5 h6 h7 => ((fr c j h0 h1 h2 h3 h4 (by omega) (by omega) (by omega)).trans rfl)), (fun c j h0 h1 h2 => ((frL c j (by omega) (by omega) (by omega)).trans rfl))⟩
        · first
          | exact zMK_e (zMK_h m4 (by rw [cuHo_e t51.1 t51.2]; exact cu3_a m7 cu3_h) rfl rfl rfl m10 p60h42 p60bhCk2 p60bbhFr2 p60bbbhPc2 p60bbbbhDh2 p60bbbbbhMh2 p60bbbbbbhD2 ((p60bbbbbbbfr 165 41 (by omega) (by omega) (by omega) (by omega) (by omega) (by omega) (by omega) (by omega)).trans m12)) (by rw [cuHo_e t51.1 t51.2, cuH2_s, List.append_assoc (w ++ cuH1 s net l j)])
          | exact zMK_e hM (by rw [cuH2_s, cuHo_n (fun q9 => by rw [← p34hv] at q9; omega), List.append_nil])
          | exact zMK_e hM (by rw [cuH2_s, cuHo_n (fun q9 => by rw [← p48hv] at q9; omega), List.append_nil])
      · refine And.intro (zA_165 hS) ⟨_, sn_Y_hld.up (by decide), ?_⟩
        refine ⟨g, s, (net : Int), ((l + 1) : Int), (i : Int), (j : Int), rfl, hS, hR, hg, hdg, (by omega), (zBB_fr hBB (fun c j h => fr c j (by omega) (by omega) (by omega) (by omega) (by omega) (by omega) (by omega) (by omega)) (fun c j h => frL c j (by omega) (by omega) (by omega))), (by first | exact hGd | (clear hQ; grind [xu])), (by omega), ?_⟩
        intro v48o p48hv p48bhv2
        refine And.intro (by omega) ⟨fun h51 => ?_, fun h51 => ?_⟩
        · refine ⟨((20 - j), (20 - (i + 1)), 0), zlt6 (by omega), [some (zvr (165)), some (zvi (net)), some (zvi (l)), some (zvi (j)), some (zvi ((i + 1)))], ⟨rfl, rfl, rfl, rfl, rfl, rfl⟩, j, (i + 1), rfl, rfl, rfl, rfl, rfl, (by omega), (by omega), ?_, (fun c j h0 h1 h2 h3 h4 h5 h6 h7 => ((fr c j h0 h1 h2 h3 h4 (by omega) (by omega) (by omega)).trans rfl)), (fun c j h0 h1 h2 => ((frL c j (by omega) (by omega) (by omega)).trans rfl))⟩
          · first
            | exact zMK_e (zMK_h m4 (by rw [cuHo_e t51.1 t51.2]; exact cu3_a m7 cu3_h) rfl rfl rfl m10 p60h42 p60bhCk2 p60bbhFr2 p60bbbhPc2 p60bbbbhDh2 p60bbbbbhMh2 p60bbbbbbhD2 ((p60bbbbbbbfr 165 41 (by omega) (by omega) (by omega) (by omega) (by omega) (by omega) (by omega) (by omega)).trans m12)) (by rw [cuHo_e t51.1 t51.2, cuH2_s, List.append_assoc (w ++ cuH1 s net l j)])
            | exact zMK_e hM (by rw [cuH2_s, cuHo_n (fun q9 => by rw [← p34hv] at q9; omega), List.append_nil])
            | exact zMK_e hM (by rw [cuH2_s, cuHo_n (fun q9 => by rw [← p48hv] at q9; omega), List.append_nil])
        · have t51 : cuHb s net l i j = 1 ∧ cuHb s net ((l : Int) + 1) i j = 1 := (by rw [← p34hv, ← p48hv]; rcases p34bhv2 with z9 | z9 <;> rcases p48bhv2 with z8 | z8 <;> omega)
          have t51b : (w ++ cuH1 s net l j ++ cuH2 s net l j i).length + 3 ≤ 60 := (by have z := cuH_l (s := s) (net := net) (l := l) (j := j) (i := i) (by omega) (by omega) t51.1 t51.2; omega)
          refine And.intro (zA_165 hS) ⟨_, sn_Y_hol1.up (by decide), ?_⟩
          refine ⟨k, q, d, (w ++ cuH1 s net l j ++ cuH2 s net l j i), pc, (net : Int), (l : Int), (i : Int), (j : Int), (w ++ cuH1 s net l j ++ cuH2 s net l j i).length, D, rfl, hS, hR, hrf, hd, hrc, hdq, m12, m11, (by omega), m1, m2, m3, m8.1, m9, m10, (by omega), m4, hrd, hdd, m5, m6, (by omega), m7, m8.2, (by omega), (by omega), ?_⟩
          intro I60o L60o p60h42 p60bhCk2 p60bbhFr2 p60bbbhPc2 p60bbbbhDh2 p60bbbbbhMh2 p60bbbbbbhD2 p60bbbbbbbfr p60bbbbbbbbfrL
          refine ⟨((20 - j), (20 - (i + 1)), 0), zlt6 (by omega), [some (zvr (165)), some (zvi (net)), some (zvi (l)), some (zvi (j)), some (zvi ((i + 1)))], ⟨rfl, rfl, rfl, rfl, rfl, rfl⟩, j, (i + 1), rfl, rfl, rfl, rfl, rfl, (by omega), (by omega), ?_, (fun c j h0 h1 h2 h3 h4 h5 h6 h7 => ((p60bbbbbbbfr c j h0 h1 h2 h3 h4 (by omega) (by omega) (by omega)).trans ((fr c j h0 h1 h2 h3 h4 (by omega) (by omega) (by omega)).trans rfl))), (fun c j h0 h1 h2 => ((p60bbbbbbbbfrL c j (by omega) (by omega) (by omega)).trans ((frL c j (by omega) (by omega) (by omega)).trans rfl)))⟩
          · first
            | exact zMK_e (zMK_h m4 (by rw [cuHo_e t51.1 t51.2]; exact cu3_a m7 cu3_h) rfl rfl rfl m10 p60h42 p60bhCk2 p60bbhFr2 p60bbbhPc2 p60bbbbhDh2 p60bbbbbhMh2 p60bbbbbbhD2 ((p60bbbbbbbfr 165 41 (by omega) (by omega) (by omega) (by omega) (by omega) (by omega) (by omega) (by omega)).trans m12)) (by rw [cuHo_e t51.1 t51.2, cuH2_s, List.append_assoc (w ++ cuH1 s net l j)])
            | exact zMK_e hM (by rw [cuH2_s, cuHo_n (fun q9 => by rw [← p34hv] at q9; omega), List.append_nil])
            | exact zMK_e hM (by rw [cuH2_s, cuHo_n (fun q9 => by rw [← p48hv] at q9; omega), List.append_nil]))
