/-! yo -/
def T_Y_hof0 : ZT := fun args I L R S Q => ∃ (g : Nat) (w : List CuR) (s : BdS) (net : Int) (l : Nat), args = [zvr 165, zvi net, zvi l] ∧ (zSh S) ∧ (zRs R) ∧ (R 165 12 = some g) ∧ (zDy zT17 zF17 g R S) ∧ (zBB g (-1) s I L) ∧ (bGd s) ∧ (302 ≤ g) ∧ (I 165 41 = 0) ∧ (I 165 42 = w.length) ∧ (w.length ≤ 80000) ∧ ((0 ≤ net ∧ net ≤ 11) ∧ l ≤ 2) ∧ ∀ (I' : ZI), (I' 165 42 = (w ++ cuH1 s net l (bH s)).length) → (∀ c j : Nat, ¬ (c = 165 ∧ j = 42) → I' c j = I c j) → Q none I' L R S
theorem sn_Y_hof0 : ZSnd 5 21 29 T_Y_hof0 := ZSnd.loops (zT21_29 4) (by
  rintro args I L R S Q hz ⟨g, w, s, net, l, rfl, hS, hR, hg, hdg, hBB, hGd, hg3, hmk, hn, hwl, hr, hQ⟩
  obtain ⟨⟨hbw, hbh, hbd, -, -⟩, -⟩ := id hBB
  obtain ⟨⟨⟨gW1, gW2⟩, ⟨gH1, gH2⟩, ⟨gD1, gD2⟩, gB9⟩, -⟩ := id hGd
  refine ⟨[2, 16], fun nM tM lsM stM I1 L1 R1 S1 => match tM with
      | 2 => ∃ (j : Nat), nM = ((20 - j), 99, 0) ∧ lsM = [some (zvr (165)), some (zvi (net)), some (zvi (l)), some (zvi (j)), none] ∧ stM = [] ∧ L1 = L ∧ R1 = R ∧ S1 = S ∧ (j ≤ bH s) ∧ (I1 165 42 = (w ++ cuH1 s net l j).length) ∧ (∀ c j : Nat, ¬ (c = 165 ∧ j = 42) → I1 c j = I c j)
      | 16 => ∃ (j : Nat) (i : Nat), nM = ((20 - j), (20 - i), 0) ∧ lsM = [some (zvr (165)), some (zvi (net)), some (zvi (l)), some (zvi (j)), some (zvi (i))] ∧ stM = [] ∧ L1 = L ∧ R1 = R ∧ S1 = S ∧ (j < bH s) ∧ (i ≤ bW s) ∧ (I1 165 42 = (w ++ cuH1 s net l j ++ cuH2 s net l j i).length) ∧ (∀ c j : Nat, ¬ (c = 165 ∧ j = 42) → I1 c j = I c j)
      | _ => False, rfl, ?_, ⟨?_, ?_, True.intro⟩⟩
  · refine ⟨((20 - (0 : Nat)), 99, 0), [some (zvr (165)), some (zvi (net)), some (zvi (l)), some (zvi ((0 : Nat))), none], ⟨rfl, rfl, rfl, rfl, rfl⟩, 0, rfl, rfl, rfl, rfl, rfl, rfl, (by omega), (hn.trans (by rw [show cuH1 s net l 0 = [] from rfl, List.append_nil])), (fun c j h0 => rfl)⟩
  · rintro nM lsM stM I1 L1 R1 S1 hz1 ⟨j, rfl, rfl, rfl, rfl, rfl, rfl, hj, hM, fr⟩
    have hbw1 : I1 g 1 = bW s := (fr g 1 (by omega)).trans hbw
    have hbh1 : I1 g 2 = bH s := (fr g 2 (by omega)).trans hbh
    have hmk1 : I1 165 41 = 0 := (fr 165 41 (by omega)).trans hmk
    refine And.intro (zA_165 hS) (zrdR (v := some g) hg ?_)
    refine And.intro (zDX hdg 0 rfl) (zrd (v := (bH s)) ((fr g 2 (by omega)).trans hbh) ?_)
    refine And.intro ⟨(by omega), (by omega)⟩ ⟨fun h10 => ?_, fun h10 => ?_⟩
    · refine hQ _ (by have e9 : j = bH s := (by omega); subst e9; exact hM) (fun c j h0 => ((fr c j h0).trans rfl))
    · refine ⟨((20 - j), (20 - (0 : Nat)), 0), zlt6 (by omega), [some (zvr (165)), some (zvi (net)), some (zvi (l)), some (zvi (j)), some (zvi ((0 : Nat)))], ⟨rfl, rfl, rfl, rfl, rfl, rfl⟩, j, 0, rfl, rfl, rfl, rfl, rfl, rfl, (by omega), (by omega), (hM.trans (by rw [show cuH2 s net l j 0 = [] from rfl, List.append_nil])), (fun c j h0 => ((fr c j h0).trans rfl))⟩
  · rintro nM lsM stM I1 L1 R1 S1 hz1 ⟨j, i, rfl, rfl, rfl, rfl, rfl, rfl, hj, hi, hM, fr⟩
    have hbw1 : I1 g 1 = bW s := (fr g 1 (by omega)).trans hbw
    have hbh1 : I1 g 2 = bH s := (fr g 2 (by omega)).trans hbh
    have hmk1 : I1 165 41 = 0 := (fr 165 41 (by omega)).trans hmk
    have hlw : (w ++ cuH1 s net l j ++ cuH2 s net l j i).length = w.length + (cuH1 s net l j).length + (cuH2 s net l j i).length := (by rw [List.length_append, List.length_append])
    have hl1 := cuH1_l (s := s) (net := net) (l := l) (j := j) (by omega) (by omega)
    have hl2 := cuH2_l (s := s) (net := net) (l := l) (j := j) (i := i) (by omega)
    refine And.intro (zA_165 hS) (zrdR (v := some g) hg ?_)
    refine And.intro (zDX hdg 0 rfl) (zrd (v := (bW s)) ((fr g 1 (by omega)).trans hbw) ?_)
    refine And.intro ⟨(by omega), (by omega)⟩ ⟨fun h25 => ?_, fun h25 => ?_⟩
    · refine ⟨((20 - (j + 1)), 99, 0), zlt6 (by omega), [some (zvr (165)), some (zvi (net)), some (zvi (l)), some (zvi ((j + 1))), none], ⟨rfl, rfl, rfl, rfl, rfl⟩, (j + 1), rfl, rfl, rfl, rfl, rfl, rfl, (by omega), (by have e9 : i = bW s := (by omega); subst e9; exact hM.trans (by rw [cuH1_s, List.append_assoc])), (fun c j h0 => ((fr c j h0).trans rfl))⟩
    · refine And.intro (zA_165 hS) ⟨_, sn_Y_hld.up (by decide), ?_⟩
      refine ⟨g, s, (net : Int), (l : Int), (i : Int), (j : Int), rfl, hS, hR, hg, hdg, (by omega), (zBB_fr hBB (fun c j h => fr c j (by omega)) (fun c j h => rfl)), (by first | exact hGd | (clear hQ; grind [xu])), (by omega), ?_⟩
      intro v34o p34hv p34bhv2
      refine And.intro (by omega) ⟨fun h37 => ?_, fun h37 => ?_⟩
      · refine ⟨((20 - j), (20 - (i + 1)), 0), zlt6 (by omega), [some (zvr (165)), some (zvi (net)), some (zvi (l)), some (zvi (j)), some (zvi ((i + 1)))], ⟨rfl, rfl, rfl, rfl, rfl, rfl⟩, j, (i + 1), rfl, rfl, rfl, rfl, rfl, rfl, (by omega), (by omega), ?_, (fun c j h0 => ((fr c j h0).trans rfl))⟩
        · first
          | (refine p60h42.trans ?_
             rw [← List.append_assoc] at *
             rw [cuH2_s, cuHo_y t51.1 t51.2, ← List.append_assoc, List.length_append (as := (w ++ cuH1 s net l j ++ cuH2 s net l j i))]
             show _ = ((_ + 3 : Nat) : Int)
             omega)
          | (refine p60h42.trans ?_
             rw [cuH2_s, cuHo_y t51.1 t51.2, ← List.append_assoc, List.length_append (as := (w ++ cuH1 s net l j ++ cuH2 s net l j i))]
             show _ = ((_ + 3 : Nat) : Int)
             omega)
          | exact hM.trans (by rw [cuH2_s, cuHo_n (fun q9 => by rw [← p34hv] at q9; omega), List.append_nil])
          | exact hM.trans (by rw [cuH2_s, cuHo_n (fun q9 => by rw [← p48hv] at q9; omega), List.append_nil])
      · refine And.intro (zA_165 hS) ⟨_, sn_Y_hld.up (by decide), ?_⟩
        refine ⟨g, s, (net : Int), ((l + 1) : Int), (i : Int), (j : Int), rfl, hS, hR, hg, hdg, (by omega), (zBB_fr hBB (fun c j h => fr c j (by omega)) (fun c j h => rfl)), (by first | exact hGd | (clear hQ; grind [xu])), (by omega), ?_⟩
        intro v48o p48hv p48bhv2
        refine And.intro (by omega) ⟨fun h51 => ?_, fun h51 => ?_⟩
        · refine ⟨((20 - j), (20 - (i + 1)), 0), zlt6 (by omega), [some (zvr (165)), some (zvi (net)), some (zvi (l)), some (zvi (j)), some (zvi ((i + 1)))], ⟨rfl, rfl, rfl, rfl, rfl, rfl⟩, j, (i + 1), rfl, rfl, rfl, rfl, rfl, rfl, (by omega), (by omega), ?_, (fun c j h0 => ((fr c j h0).trans rfl))⟩
          · first
            | (refine p60h42.trans ?_
               rw [← List.append_assoc] at *
               rw [cuH2_s, cuHo_y t51.1 t51.2, ← List.append_assoc, List.length_append (as := (w ++ cuH1 s net l j ++ cuH2 s net l j i))]
               show _ = ((_ + 3 : Nat) : Int)
               omega)
            | (refine p60h42.trans ?_
               rw [cuH2_s, cuHo_y t51.1 t51.2, ← List.append_assoc, List.length_append (as := (w ++ cuH1 s net l j ++ cuH2 s net l j i))]
               show _ = ((_ + 3 : Nat) : Int)
               omega)
            | exact hM.trans (by rw [cuH2_s, cuHo_n (fun q9 => by rw [← p34hv] at q9; omega), List.append_nil])
            | exact hM.trans (by rw [cuH2_s, cuHo_n (fun q9 => by rw [← p48hv] at q9; omega), List.append_nil])
        · have t51 : cuHb s net l i j = 1 ∧ cuHb s net ((l : Int) + 1) i j = 1 := (by rw [← p34hv, ← p48hv]; rcases p34bhv2 with z9 | z9 <;> rcases p48bhv2 with z8 | z8 <;> omega)
          refine And.intro (zA_165 hS) ⟨_, sn_Y_hol0.up (by decide), ?_⟩
          refine ⟨(net : Int), (l : Int), (i : Int), (j : Int), (w ++ cuH1 s net l j ++ cuH2 s net l j i).length, rfl, hS, hR, hmk1, hM, (by omega), (by omega), ?_⟩
          intro I60o p60h42 p60bfr
          refine ⟨((20 - j), (20 - (i + 1)), 0), zlt6 (by omega), [some (zvr (165)), some (zvi (net)), some (zvi (l)), some (zvi (j)), some (zvi ((i + 1)))], ⟨rfl, rfl, rfl, rfl, rfl, rfl⟩, j, (i + 1), rfl, rfl, rfl, rfl, rfl, rfl, (by omega), (by omega), ?_, (fun c j h0 => ((p60bfr c j h0).trans ((fr c j h0).trans rfl)))⟩
          · first
            | (refine p60h42.trans ?_
               rw [← List.append_assoc] at *
               rw [cuH2_s, cuHo_y t51.1 t51.2, ← List.append_assoc, List.length_append (as := (w ++ cuH1 s net l j ++ cuH2 s net l j i))]
               show _ = ((_ + 3 : Nat) : Int)
               omega)
            | (refine p60h42.trans ?_
               rw [cuH2_s, cuHo_y t51.1 t51.2, ← List.append_assoc, List.length_append (as := (w ++ cuH1 s net l j ++ cuH2 s net l j i))]
               show _ = ((_ + 3 : Nat) : Int)
               omega)
            | exact hM.trans (by rw [cuH2_s, cuHo_n (fun q9 => by rw [← p34hv] at q9; omega), List.append_nil])
            | exact hM.trans (by rw [cuH2_s, cuHo_n (fun q9 => by rw [← p48hv] at q9; omega), List.append_nil]))
