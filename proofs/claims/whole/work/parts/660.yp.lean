/-! yp -/
def T_Y_run1c : ZT := fun args I L R S Q => ∃ (g : Nat) (w : List CuR) (s : BdS) (net : Int) (l : Nat), args = [zvr 165, zvi net, zvi l, zvi 1] ∧ (zSh S) ∧ (zRs R) ∧ (R 165 12 = some g) ∧ (zDy zT17 zF17 g R S) ∧ (zBB g (-1) s I L) ∧ (bGd s) ∧ (302 ≤ g) ∧ (I 165 41 = 0) ∧ (I 165 42 = w.length) ∧ (w.length ≤ 80000) ∧ ((0 ≤ net ∧ net ≤ 11) ∧ l ≤ 3) ∧ ∀ (I' : ZI), (I' 165 42 = (w ++ cuC (fun r => cuLn s net l r 1) (bH s)).length) → (∀ c j : Nat, ¬ (c = 165 ∧ j = 42) → I' c j = I c j) → Q none I' L R S
theorem sn_Y_run1c : ZSnd 5 21 60 T_Y_run1c := ZSnd.loops (zT21_60 4) (by
  rintro args I L R S Q hz ⟨g, w, s, net, l, rfl, hS, hR, hg, hdg, hBB, hGd, hg3, hmk, hn, hwl, hr, hQ⟩
  obtain ⟨⟨hbw, hbh, hbd, -, -⟩, -⟩ := id hBB
  obtain ⟨⟨⟨gW1, gW2⟩, ⟨gH1, gH2⟩, ⟨gD1, gD2⟩, gB9⟩, -⟩ := id hGd
  have hmx : cuMx s 1 = bW s := cuMx_1 rfl
  refine ⟨[49, 59, 70], fun nM tM lsM stM I1 L1 R1 S1 => match tM with
      | 49 => ∃ (r : Nat), nM = ((20 - r), 99, 0) ∧ lsM = [some (zvr (165)), some (zvi (net)), some (zvi (l)), some (zvi (1)), some (zvi (bH s)), some (zvi (bW s)), some (zvi (r)), none, none] ∧ stM = [] ∧ L1 = L ∧ R1 = R ∧ S1 = S ∧ (r ≤ bH s) ∧ (I1 165 42 = (w ++ cuC (fun r => cuLn s net l r 1) r).length) ∧ (∀ c j : Nat, ¬ (c = 165 ∧ j = 42) → I1 c j = I c j)
      | 59 => ∃ (r : Nat) (kk : Nat), nM = ((20 - r), (40 - kk), 99) ∧ lsM = [some (zvr (165)), some (zvi (net)), some (zvi (l)), some (zvi (1)), some (zvi (bH s)), some (zvi (bW s)), some (zvi (r)), some (zvi (kk)), none] ∧ stM = [] ∧ L1 = L ∧ R1 = R ∧ S1 = S ∧ (r < bH s) ∧ (kk ≤ bW s + 1) ∧ (cuR (cuHl s net l r 1) kk = 0) ∧ (I1 165 42 = ((w ++ cuC (fun r => cuLn s net l r 1) r) ++ cuL (cuMk net l r 1) (cuHl s net l r 1) kk).length) ∧ (∀ c j : Nat, ¬ (c = 165 ∧ j = 42) → I1 c j = I c j)
      | 70 => ∃ (r : Nat) (kk : Nat) (e : Nat), nM = ((20 - r), (40 - kk), (40 - e)) ∧ lsM = [some (zvr (165)), some (zvi (net)), some (zvi (l)), some (zvi (1)), some (zvi (bH s)), some (zvi (bW s)), some (zvi (r)), some (zvi (kk)), some (zvi (e))] ∧ stM = [] ∧ L1 = L ∧ R1 = R ∧ S1 = S ∧ (r < bH s) ∧ (kk < bW s) ∧ (kk ≤ e ∧ e ≤ bW s) ∧ (cuR (cuHl s net l r 1) e = e - kk) ∧ (cuL (cuMk net l r 1) (cuHl s net l r 1) e = cuL (cuMk net l r 1) (cuHl s net l r 1) kk) ∧ (I1 165 42 = ((w ++ cuC (fun r => cuLn s net l r 1) r) ++ cuL (cuMk net l r 1) (cuHl s net l r 1) kk).length) ∧ (∀ c j : Nat, ¬ (c = 165 ∧ j = 42) → I1 c j = I c j)
      | _ => False, rfl, ?_, ⟨?_, ?_, ?_, True.intro⟩⟩
  · refine And.intro (zRb rfl) (zbf rfl ?_)
    refine And.intro (zA_165 hS) (zrdR (v := some g) hg ?_)
    refine And.intro (zDX hdg 0 rfl) (zrd (v := (bH s)) hbh ?_)
    refine And.intro (zRb rfl) (zbf rfl ?_)
    refine And.intro (zA_165 hS) (zrdR (v := some g) hg ?_)
    refine And.intro (zDX hdg 0 rfl) (zrd (v := (bW s)) hbw ?_)
    refine ⟨((20 - (0 : Nat)), 99, 0), [some (zvr (165)), some (zvi (net)), some (zvi (l)), some (zvi (1)), some (zvi (bH s)), some (zvi (bW s)), some (zvi ((0 : Nat))), none, none], ⟨rfl, rfl, rfl, rfl, rfl, rfl, rfl, rfl⟩, 0, rfl, rfl, rfl, rfl, rfl, rfl, (by omega), (hn.trans (by rw [show cuC (fun r => cuLn s net l r 1) 0 = [] from rfl, List.append_nil])), (fun c j h0 => rfl)⟩
  · rintro nM lsM stM I1 L1 R1 S1 hz1 ⟨r, rfl, rfl, rfl, rfl, rfl, rfl, hrr, hM, fr⟩
    have hbw1 : I1 g 1 = bW s := (fr g 1 (by omega)).trans hbw
    have hbh1 : I1 g 2 = bH s := (fr g 2 (by omega)).trans hbh
    have hmk1 : I1 165 41 = 0 := (fr 165 41 (by omega)).trans hmk
    refine And.intro ⟨(by omega), (by omega)⟩ ⟨fun h53 => ?_, fun h53 => ?_⟩
    · refine hQ _ (by have e9 : r = bH s := (by omega); subst e9; exact hM) (fun c j h0 => ((fr c j h0).trans rfl))
    · refine ⟨((20 - r), (40 - (0 : Nat)), 99), zlt6 (by omega), [some (zvr (165)), some (zvi (net)), some (zvi (l)), some (zvi (1)), some (zvi (bH s)), some (zvi (bW s)), some (zvi (r)), some (zvi ((0 : Nat))), none], ⟨rfl, rfl, rfl, rfl, rfl, rfl, rfl, rfl, rfl⟩, r, 0, rfl, rfl, rfl, rfl, rfl, rfl, (by omega), (by omega), rfl, (hM.trans (by rw [show cuL (cuMk net l r 1) (cuHl s net l r 1) 0 = [] from rfl, List.append_nil])), (fun c j h0 => ((fr c j h0).trans rfl))⟩
  · rintro nM lsM stM I1 L1 R1 S1 hz1 ⟨r, kk, rfl, rfl, rfl, rfl, rfl, rfl, hrr, hkk, hRk, hM, fr⟩
    have hbw1 : I1 g 1 = bW s := (fr g 1 (by omega)).trans hbw
    have hbh1 : I1 g 2 = bH s := (fr g 2 (by omega)).trans hbh
    have hmk1 : I1 165 41 = 0 := (fr 165 41 (by omega)).trans hmk
    refine And.intro ⟨(by omega), (by omega)⟩ ⟨fun h63 => ?_, fun h63 => ?_⟩
    · refine ⟨((20 - (r + 1)), 99, 0), zlt6 (by omega), [some (zvr (165)), some (zvi (net)), some (zvi (l)), some (zvi (1)), some (zvi (bH s)), some (zvi (bW s)), some (zvi ((r + 1))), none, none], ⟨rfl, rfl, rfl, rfl, rfl, rfl, rfl, rfl⟩, (r + 1), rfl, rfl, rfl, rfl, rfl, rfl, (by omega), ?_, (fun c j h0 => ((fr c j h0).trans rfl))⟩
      · have e1 : cuL (cuMk net l r 1) (cuHl s net l r 1) (bW s + 1) = cuL (cuMk net l r 1) (cuHl s net l r 1) kk := by
          by_cases z : kk = bW s + 1
          · rw [z]
          · have z2 : kk = bW s := by omega
            rw [← z2, cuL_n (by rw [z2, ← hmx]; exact cuHl_e) (by rw [hRk]; decide)]
        exact hM.trans (by
          rw [← e1, List.append_assoc, ← hmx]
          rfl)
    · refine ⟨((20 - r), (40 - kk), (40 - kk)), zlt6 (by omega), [some (zvr (165)), some (zvi (net)), some (zvi (l)), some (zvi (1)), some (zvi (bH s)), some (zvi (bW s)), some (zvi (r)), some (zvi (kk)), some (zvi (kk))], ⟨rfl, rfl, rfl, rfl, rfl, rfl, rfl, rfl, rfl, rfl⟩, r, kk, kk, rfl, rfl, rfl, rfl, rfl, rfl, (by omega), (by omega), (by omega), (by rw [hRk]; omega), rfl, hM, (fun c j h0 => ((fr c j h0).trans rfl))⟩
  · rintro nM lsM stM I1 L1 R1 S1 hz1 ⟨r, kk, e, rfl, rfl, rfl, rfl, rfl, rfl, hrr, hkk, hee, hRe, hLe, hM, fr⟩
    have hbw1 : I1 g 1 = bW s := (fr g 1 (by omega)).trans hbw
    have hbh1 : I1 g 2 = bH s := (fr g 2 (by omega)).trans hbh
    have hmk1 : I1 165 41 = 0 := (fr 165 41 (by omega)).trans hmk
    have hkl := cuL_l (mk := (cuMk net l r 1)) (h := (cuHl s net l r 1)) kk
    have hcl := cuRl_l (s := s) (net := net) (l := l) (r := r) (al := 1) (by omega) (by omega) (by omega)
    have hlw : ((w ++ cuC (fun r => cuLn s net l r 1) r) ++ cuL (cuMk net l r 1) (cuHl s net l r 1) kk).length = w.length + (cuC (fun r => cuLn s net l r 1) r).length + (cuL (cuMk net l r 1) (cuHl s net l r 1) kk).length := (by rw [List.length_append, List.length_append])
    have hhe := cuHl_1 (s := s) (net := net) (l := l) (r := r) (al := 1) (n := e) (by decide)
    refine And.intro ⟨(by omega), (by omega)⟩ ⟨fun h74 => ?_, fun h74 => ?_⟩
    · have t74 : ¬ (cuHl s net l r 1) e = 1 := (by have e9 : e = cuMx s 1 := (by omega); rw [e9]; exact cuHl_e)
      refine And.intro ⟨(by omega), (zRb rfl)⟩ ⟨fun h122 => ?_, fun h122 => ?_⟩
      · refine And.intro ⟨(by omega), (zRb rfl)⟩ ⟨fun h151 => ?_, (fun h151 => False.elim (by omega))⟩
        refine ⟨((20 - r), (40 - (e + 1)), 99), zlt6 (by omega), [some (zvr (165)), some (zvi (net)), some (zvi (l)), some (zvi (1)), some (zvi (bH s)), some (zvi (bW s)), some (zvi (r)), some (zvi ((e + 1))), none], ⟨rfl, rfl, rfl, rfl, rfl, rfl, rfl, rfl, rfl⟩, r, (e + 1), rfl, rfl, rfl, rfl, rfl, rfl, (by omega), (by omega), (by first | exact cuR_n t74 | exact cuR_n t91), ?_, (fun c j h0 => ((fr c j h0).trans rfl))⟩
        · have hNE : ¬ (cuHl s net l r 1) e = 1 := by first | exact t74 | exact t91
          first
          | (refine p142h42.trans ?_
             rw [(cuLa_y hee.1 hRe hLe hNE (mk := (cuMk net l r 1)) (by omega)).2, ← List.append_assoc, List.length_append (as := ((w ++ cuC (fun r => cuLn s net l r 1) r) ++ cuL (cuMk net l r 1) (cuHl s net l r 1) kk))]
             show _ = ((_ + 1 : Nat) : Int)
             omega)
          | exact hM.trans (by rw [(cuLa_n hRe hLe hNE (mk := (cuMk net l r 1)) (by omega)).2])
      · refine And.intro (zRb rfl) (zbf rfl ?_)
        refine And.intro (zA_165 hS) ⟨_, sn_Y_row0.up (by decide), ?_⟩
        refine ⟨(net : Int), (l : Int), (kk : Int), (r : Int), ((e - 1) : Int), (r : Int), ((w ++ cuC (fun r => cuLn s net l r 1) r) ++ cuL (cuMk net l r 1) (cuHl s net l r 1) kk).length, rfl, hS, hR, hmk1, hM, (by omega), (by omega), ?_⟩
        intro I142o p142h42 p142bfr
        refine And.intro ⟨(by omega), (zRb rfl)⟩ ⟨(fun h151 => False.elim (by omega)), fun h151 => ?_⟩
        refine And.intro (zRb rfl) (zbt rfl ?_)
        refine ⟨((20 - r), (40 - (e + 1)), 99), zlt6 (by omega), [some (zvr (165)), some (zvi (net)), some (zvi (l)), some (zvi (1)), some (zvi (bH s)), some (zvi (bW s)), some (zvi (r)), some (zvi ((e + 1))), none], ⟨rfl, rfl, rfl, rfl, rfl, rfl, rfl, rfl, rfl⟩, r, (e + 1), rfl, rfl, rfl, rfl, rfl, rfl, (by omega), (by omega), (by first | exact cuR_n t74 | exact cuR_n t91), ?_, (fun c j h0 => ((p142bfr c j h0).trans ((fr c j h0).trans rfl)))⟩
        · have hNE : ¬ (cuHl s net l r 1) e = 1 := by first | exact t74 | exact t91
          first
          | (refine p142h42.trans ?_
             rw [(cuLa_y hee.1 hRe hLe hNE (mk := (cuMk net l r 1)) (by omega)).2, ← List.append_assoc, List.length_append (as := ((w ++ cuC (fun r => cuLn s net l r 1) r) ++ cuL (cuMk net l r 1) (cuHl s net l r 1) kk))]
             show _ = ((_ + 1 : Nat) : Int)
             omega)
          | exact hM.trans (by rw [(cuLa_n hRe hLe hNE (mk := (cuMk net l r 1)) (by omega)).2])
    · refine And.intro (zRb rfl) (zbf rfl ?_)
      refine And.intro (zA_165 hS) ⟨_, sn_Y_hld.up (by decide), ?_⟩
      refine ⟨g, s, (net : Int), (l : Int), (e : Int), (r : Int), rfl, hS, hR, hg, hdg, (by omega), (zBB_fr hBB (fun c j h => fr c j (by omega)) (fun c j h => rfl)), (by first | exact hGd | (clear hQ; grind [xu])), (by omega), ?_⟩
      intro v88o p88hv p88bhv2
      refine And.intro (by omega) ⟨fun h91 => ?_, fun h91 => ?_⟩
      · have t91 : ¬ (cuHl s net l r 1) e = 1 := (by rw [hhe, ← p88hv]; omega)
        refine And.intro ⟨(by omega), (zRb rfl)⟩ ⟨fun h122 => ?_, fun h122 => ?_⟩
        · refine And.intro ⟨(by omega), (zRb rfl)⟩ ⟨fun h151 => ?_, (fun h151 => False.elim (by omega))⟩
          refine ⟨((20 - r), (40 - (e + 1)), 99), zlt6 (by omega), [some (zvr (165)), some (zvi (net)), some (zvi (l)), some (zvi (1)), some (zvi (bH s)), some (zvi (bW s)), some (zvi (r)), some (zvi ((e + 1))), none], ⟨rfl, rfl, rfl, rfl, rfl, rfl, rfl, rfl, rfl⟩, r, (e + 1), rfl, rfl, rfl, rfl, rfl, rfl, (by omega), (by omega), (by first | exact cuR_n t74 | exact cuR_n t91), ?_, (fun c j h0 => ((fr c j h0).trans rfl))⟩
          · have hNE : ¬ (cuHl s net l r 1) e = 1 := by first | exact t74 | exact t91
            first
            | (refine p142h42.trans ?_
               rw [(cuLa_y hee.1 hRe hLe hNE (mk := (cuMk net l r 1)) (by omega)).2, ← List.append_assoc, List.length_append (as := ((w ++ cuC (fun r => cuLn s net l r 1) r) ++ cuL (cuMk net l r 1) (cuHl s net l r 1) kk))]
               show _ = ((_ + 1 : Nat) : Int)
               omega)
            | exact hM.trans (by rw [(cuLa_n hRe hLe hNE (mk := (cuMk net l r 1)) (by omega)).2])
        · refine And.intro (zRb rfl) (zbf rfl ?_)
          refine And.intro (zA_165 hS) ⟨_, sn_Y_row0.up (by decide), ?_⟩
          refine ⟨(net : Int), (l : Int), (kk : Int), (r : Int), ((e - 1) : Int), (r : Int), ((w ++ cuC (fun r => cuLn s net l r 1) r) ++ cuL (cuMk net l r 1) (cuHl s net l r 1) kk).length, rfl, hS, hR, hmk1, hM, (by omega), (by omega), ?_⟩
          intro I142o p142h42 p142bfr
          refine And.intro ⟨(by omega), (zRb rfl)⟩ ⟨(fun h151 => False.elim (by omega)), fun h151 => ?_⟩
          refine And.intro (zRb rfl) (zbt rfl ?_)
          refine ⟨((20 - r), (40 - (e + 1)), 99), zlt6 (by omega), [some (zvr (165)), some (zvi (net)), some (zvi (l)), some (zvi (1)), some (zvi (bH s)), some (zvi (bW s)), some (zvi (r)), some (zvi ((e + 1))), none], ⟨rfl, rfl, rfl, rfl, rfl, rfl, rfl, rfl, rfl⟩, r, (e + 1), rfl, rfl, rfl, rfl, rfl, rfl, (by omega), (by omega), (by first | exact cuR_n t74 | exact cuR_n t91), ?_, (fun c j h0 => ((p142bfr c j h0).trans ((fr c j h0).trans rfl)))⟩
          · have hNE : ¬ (cuHl s net l r 1) e = 1 := by first | exact t74 | exact t91
            first
            | (refine p142h42.trans ?_
               rw [(cuLa_y hee.1 hRe hLe hNE (mk := (cuMk net l r 1)) (by omega)).2, ← List.append_assoc, List.length_append (as := ((w ++ cuC (fun r => cuLn s net l r 1) r) ++ cuL (cuMk net l r 1) (cuHl s net l r 1) kk))]
               show _ = ((_ + 1 : Nat) : Int)
               omega)
            | exact hM.trans (by rw [(cuLa_n hRe hLe hNE (mk := (cuMk net l r 1)) (by omega)).2])
      · have t91 : (cuHl s net l r 1) e = 1 := (by rw [hhe, ← p88hv]; rcases p88bhv2 with z9 | z9 <;> omega)
        refine ⟨((20 - r), (40 - kk), (40 - (e + 1))), zlt6 (by omega), [some (zvr (165)), some (zvi (net)), some (zvi (l)), some (zvi (1)), some (zvi (bH s)), some (zvi (bW s)), some (zvi (r)), some (zvi (kk)), some (zvi ((e + 1)))], ⟨rfl, rfl, rfl, rfl, rfl, rfl, rfl, rfl, rfl, rfl⟩, r, kk, (e + 1), rfl, rfl, rfl, rfl, rfl, rfl, (by omega), (by omega), (by omega), (cuLa_s hee.1 hRe hLe t91).1, (cuLa_s hee.1 hRe hLe t91).2, hM, (fun c j h0 => ((fr c j h0).trans rfl))⟩)
def T_Y_run0c : ZT := fun args I L R S Q => ∃ (g : Nat) (w : List CuR) (s : BdS) (net : Int) (l : Nat), args = [zvr 165, zvi net, zvi l, zvi 0] ∧ (zSh S) ∧ (zRs R) ∧ (R 165 12 = some g) ∧ (zDy zT17 zF17 g R S) ∧ (zBB g (-1) s I L) ∧ (bGd s) ∧ (302 ≤ g) ∧ (I 165 41 = 0) ∧ (I 165 42 = w.length) ∧ (w.length ≤ 80000) ∧ ((0 ≤ net ∧ net ≤ 11) ∧ l ≤ 3) ∧ ∀ (I' : ZI), (I' 165 42 = (w ++ cuC (fun r => cuLn s net l r 0) (bW s)).length) → (∀ c j : Nat, ¬ (c = 165 ∧ j = 42) → I' c j = I c j) → Q none I' L R S
theorem sn_Y_run0c : ZSnd 5 21 60 T_Y_run0c := ZSnd.loops (zT21_60 4) (by
  rintro args I L R S Q hz ⟨g, w, s, net, l, rfl, hS, hR, hg, hdg, hBB, hGd, hg3, hmk, hn, hwl, hr, hQ⟩
  obtain ⟨⟨hbw, hbh, hbd, -, -⟩, -⟩ := id hBB
  obtain ⟨⟨⟨gW1, gW2⟩, ⟨gH1, gH2⟩, ⟨gD1, gD2⟩, gB9⟩, -⟩ := id hGd
  have hmx : cuMx s 0 = bH s := cuMx_0 (by decide)
  refine ⟨[49, 59, 70], fun nM tM lsM stM I1 L1 R1 S1 => match tM with
      | 49 => ∃ (r : Nat), nM = ((20 - r), 99, 0) ∧ lsM = [some (zvr (165)), some (zvi (net)), some (zvi (l)), some (zvi (0)), some (zvi (bW s)), some (zvi (bH s)), some (zvi (r)), none, none] ∧ stM = [] ∧ L1 = L ∧ R1 = R ∧ S1 = S ∧ (r ≤ bW s) ∧ (I1 165 42 = (w ++ cuC (fun r => cuLn s net l r 0) r).length) ∧ (∀ c j : Nat, ¬ (c = 165 ∧ j = 42) → I1 c j = I c j)
      | 59 => ∃ (r : Nat) (kk : Nat), nM = ((20 - r), (40 - kk), 99) ∧ lsM = [some (zvr (165)), some (zvi (net)), some (zvi (l)), some (zvi (0)), some (zvi (bW s)), some (zvi (bH s)), some (zvi (r)), some (zvi (kk)), none] ∧ stM = [] ∧ L1 = L ∧ R1 = R ∧ S1 = S ∧ (r < bW s) ∧ (kk ≤ bH s + 1) ∧ (cuR (cuHl s net l r 0) kk = 0) ∧ (I1 165 42 = ((w ++ cuC (fun r => cuLn s net l r 0) r) ++ cuL (cuMk net l r 0) (cuHl s net l r 0) kk).length) ∧ (∀ c j : Nat, ¬ (c = 165 ∧ j = 42) → I1 c j = I c j)
      | 70 => ∃ (r : Nat) (kk : Nat) (e : Nat), nM = ((20 - r), (40 - kk), (40 - e)) ∧ lsM = [some (zvr (165)), some (zvi (net)), some (zvi (l)), some (zvi (0)), some (zvi (bW s)), some (zvi (bH s)), some (zvi (r)), some (zvi (kk)), some (zvi (e))] ∧ stM = [] ∧ L1 = L ∧ R1 = R ∧ S1 = S ∧ (r < bW s) ∧ (kk < bH s) ∧ (kk ≤ e ∧ e ≤ bH s) ∧ (cuR (cuHl s net l r 0) e = e - kk) ∧ (cuL (cuMk net l r 0) (cuHl s net l r 0) e = cuL (cuMk net l r 0) (cuHl s net l r 0) kk) ∧ (I1 165 42 = ((w ++ cuC (fun r => cuLn s net l r 0) r) ++ cuL (cuMk net l r 0) (cuHl s net l r 0) kk).length) ∧ (∀ c j : Nat, ¬ (c = 165 ∧ j = 42) → I1 c j = I c j)
      | _ => False, rfl, ?_, ⟨?_, ?_, ?_, True.intro⟩⟩
  · refine And.intro (zRb rfl) (zbt rfl ?_)
    refine And.intro (zA_165 hS) (zrdR (v := some g) hg ?_)
    refine And.intro (zDX hdg 0 rfl) (zrd (v := (bW s)) hbw ?_)
    refine And.intro (zRb rfl) (zbt rfl ?_)
    refine And.intro (zA_165 hS) (zrdR (v := some g) hg ?_)
    refine And.intro (zDX hdg 0 rfl) (zrd (v := (bH s)) hbh ?_)
    refine ⟨((20 - (0 : Nat)), 99, 0), [some (zvr (165)), some (zvi (net)), some (zvi (l)), some (zvi (0)), some (zvi (bW s)), some (zvi (bH s)), some (zvi ((0 : Nat))), none, none], ⟨rfl, rfl, rfl, rfl, rfl, rfl, rfl, rfl⟩, 0, rfl, rfl, rfl, rfl, rfl, rfl, (by omega), (hn.trans (by rw [show cuC (fun r => cuLn s net l r 0) 0 = [] from rfl, List.append_nil])), (fun c j h0 => rfl)⟩
  · rintro nM lsM stM I1 L1 R1 S1 hz1 ⟨r, rfl, rfl, rfl, rfl, rfl, rfl, hrr, hM, fr⟩
    have hbw1 : I1 g 1 = bW s := (fr g 1 (by omega)).trans hbw
    have hbh1 : I1 g 2 = bH s := (fr g 2 (by omega)).trans hbh
    have hmk1 : I1 165 41 = 0 := (fr 165 41 (by omega)).trans hmk
    refine And.intro ⟨(by omega), (by omega)⟩ ⟨fun h53 => ?_, fun h53 => ?_⟩
    · refine hQ _ (by have e9 : r = bW s := (by omega); subst e9; exact hM) (fun c j h0 => ((fr c j h0).trans rfl))
    · refine ⟨((20 - r), (40 - (0 : Nat)), 99), zlt6 (by omega), [some (zvr (165)), some (zvi (net)), some (zvi (l)), some (zvi (0)), some (zvi (bW s)), some (zvi (bH s)), some (zvi (r)), some (zvi ((0 : Nat))), none], ⟨rfl, rfl, rfl, rfl, rfl, rfl, rfl, rfl, rfl⟩, r, 0, rfl, rfl, rfl, rfl, rfl, rfl, (by omega), (by omega), rfl, (hM.trans (by rw [show cuL (cuMk net l r 0) (cuHl s net l r 0) 0 = [] from rfl, List.append_nil])), (fun c j h0 => ((fr c j h0).trans rfl))⟩
  · rintro nM lsM stM I1 L1 R1 S1 hz1 ⟨r, kk, rfl, rfl, rfl, rfl, rfl, rfl, hrr, hkk, hRk, hM, fr⟩
    have hbw1 : I1 g 1 = bW s := (fr g 1 (by omega)).trans hbw
    have hbh1 : I1 g 2 = bH s := (fr g 2 (by omega)).trans hbh
    have hmk1 : I1 165 41 = 0 := (fr 165 41 (by omega)).trans hmk
    refine And.intro ⟨(by omega), (by omega)⟩ ⟨fun h63 => ?_, fun h63 => ?_⟩
    · refine ⟨((20 - (r + 1)), 99, 0), zlt6 (by omega), [some (zvr (165)), some (zvi (net)), some (zvi (l)), some (zvi (0)), some (zvi (bW s)), some (zvi (bH s)), some (zvi ((r + 1))), none, none], ⟨rfl, rfl, rfl, rfl, rfl, rfl, rfl, rfl⟩, (r + 1), rfl, rfl, rfl, rfl, rfl, rfl, (by omega), ?_, (fun c j h0 => ((fr c j h0).trans rfl))⟩
      · have e1 : cuL (cuMk net l r 0) (cuHl s net l r 0) (bH s + 1) = cuL (cuMk net l r 0) (cuHl s net l r 0) kk := by
          by_cases z : kk = bH s + 1
          · rw [z]
          · have z2 : kk = bH s := by omega
            rw [← z2, cuL_n (by rw [z2, ← hmx]; exact cuHl_e) (by rw [hRk]; decide)]
        exact hM.trans (by
          rw [← e1, List.append_assoc, ← hmx]
          rfl)
    · refine ⟨((20 - r), (40 - kk), (40 - kk)), zlt6 (by omega), [some (zvr (165)), some (zvi (net)), some (zvi (l)), some (zvi (0)), some (zvi (bW s)), some (zvi (bH s)), some (zvi (r)), some (zvi (kk)), some (zvi (kk))], ⟨rfl, rfl, rfl, rfl, rfl, rfl, rfl, rfl, rfl, rfl⟩, r, kk, kk, rfl, rfl, rfl, rfl, rfl, rfl, (by omega), (by omega), (by omega), (by rw [hRk]; omega), rfl, hM, (fun c j h0 => ((fr c j h0).trans rfl))⟩
  · rintro nM lsM stM I1 L1 R1 S1 hz1 ⟨r, kk, e, rfl, rfl, rfl, rfl, rfl, rfl, hrr, hkk, hee, hRe, hLe, hM, fr⟩
    have hbw1 : I1 g 1 = bW s := (fr g 1 (by omega)).trans hbw
    have hbh1 : I1 g 2 = bH s := (fr g 2 (by omega)).trans hbh
    have hmk1 : I1 165 41 = 0 := (fr 165 41 (by omega)).trans hmk
    have hkl := cuL_l (mk := (cuMk net l r 0)) (h := (cuHl s net l r 0)) kk
    have hcl := cuRl_l (s := s) (net := net) (l := l) (r := r) (al := 0) (by omega) (by omega) (by omega)
    have hlw : ((w ++ cuC (fun r => cuLn s net l r 0) r) ++ cuL (cuMk net l r 0) (cuHl s net l r 0) kk).length = w.length + (cuC (fun r => cuLn s net l r 0) r).length + (cuL (cuMk net l r 0) (cuHl s net l r 0) kk).length := (by rw [List.length_append, List.length_append])
    have hhe := cuHl_0 (s := s) (net := net) (l := l) (r := r) (al := 0) (n := e) (by decide)
    refine And.intro ⟨(by omega), (by omega)⟩ ⟨fun h74 => ?_, fun h74 => ?_⟩
    · have t74 : ¬ (cuHl s net l r 0) e = 1 := (by have e9 : e = cuMx s 0 := (by omega); rw [e9]; exact cuHl_e)
      refine And.intro ⟨(by omega), (zRb rfl)⟩ ⟨fun h122 => ?_, fun h122 => ?_⟩
      · refine And.intro ⟨(by omega), (zRb rfl)⟩ ⟨fun h151 => ?_, (fun h151 => False.elim (by omega))⟩
        refine ⟨((20 - r), (40 - (e + 1)), 99), zlt6 (by omega), [some (zvr (165)), some (zvi (net)), some (zvi (l)), some (zvi (0)), some (zvi (bW s)), some (zvi (bH s)), some (zvi (r)), some (zvi ((e + 1))), none], ⟨rfl, rfl, rfl, rfl, rfl, rfl, rfl, rfl, rfl⟩, r, (e + 1), rfl, rfl, rfl, rfl, rfl, rfl, (by omega), (by omega), (by first | exact cuR_n t74 | exact cuR_n t107), ?_, (fun c j h0 => ((fr c j h0).trans rfl))⟩
        · have hNE : ¬ (cuHl s net l r 0) e = 1 := by first | exact t74 | exact t107
          first
          | (refine p171h42.trans ?_
             rw [(cuLa_y hee.1 hRe hLe hNE (mk := (cuMk net l r 0)) (by omega)).2, ← List.append_assoc, List.length_append (as := ((w ++ cuC (fun r => cuLn s net l r 0) r) ++ cuL (cuMk net l r 0) (cuHl s net l r 0) kk))]
             show _ = ((_ + 1 : Nat) : Int)
             omega)
          | exact hM.trans (by rw [(cuLa_n hRe hLe hNE (mk := (cuMk net l r 0)) (by omega)).2])
      · refine And.intro (zRb rfl) (zbt rfl ?_)
        refine And.intro ⟨(by omega), (zRb rfl)⟩ ⟨(fun h151 => False.elim (by omega)), fun h151 => ?_⟩
        refine And.intro (zRb rfl) (zbf rfl ?_)
        refine And.intro (zA_165 hS) ⟨_, sn_Y_row0.up (by decide), ?_⟩
        refine ⟨(net : Int), (l : Int), (r : Int), (kk : Int), (r : Int), ((e - 1) : Int), ((w ++ cuC (fun r => cuLn s net l r 0) r) ++ cuL (cuMk net l r 0) (cuHl s net l r 0) kk).length, rfl, hS, hR, hmk1, hM, (by omega), (by omega), ?_⟩
        intro I171o p171h42 p171bfr
        refine ⟨((20 - r), (40 - (e + 1)), 99), zlt6 (by omega), [some (zvr (165)), some (zvi (net)), some (zvi (l)), some (zvi (0)), some (zvi (bW s)), some (zvi (bH s)), some (zvi (r)), some (zvi ((e + 1))), none], ⟨rfl, rfl, rfl, rfl, rfl, rfl, rfl, rfl, rfl⟩, r, (e + 1), rfl, rfl, rfl, rfl, rfl, rfl, (by omega), (by omega), (by first | exact cuR_n t74 | exact cuR_n t107), ?_, (fun c j h0 => ((p171bfr c j h0).trans ((fr c j h0).trans rfl)))⟩
        · have hNE : ¬ (cuHl s net l r 0) e = 1 := by first | exact t74 | exact t107
          first
          | (refine p171h42.trans ?_
             rw [(cuLa_y hee.1 hRe hLe hNE (mk := (cuMk net l r 0)) (by omega)).2, ← List.append_assoc, List.length_append (as := ((w ++ cuC (fun r => cuLn s net l r 0) r) ++ cuL (cuMk net l r 0) (cuHl s net l r 0) kk))]
             show _ = ((_ + 1 : Nat) : Int)
             omega)
          | exact hM.trans (by rw [(cuLa_n hRe hLe hNE (mk := (cuMk net l r 0)) (by omega)).2])
    · refine And.intro (zRb rfl) (zbt rfl ?_)
      refine And.intro (zA_165 hS) ⟨_, sn_Y_hld.up (by decide), ?_⟩
      refine ⟨g, s, (net : Int), (l : Int), (r : Int), (e : Int), rfl, hS, hR, hg, hdg, (by omega), (zBB_fr hBB (fun c j h => fr c j (by omega)) (fun c j h => rfl)), (by first | exact hGd | (clear hQ; grind [xu])), (by omega), ?_⟩
      intro v104o p104hv p104bhv2
      refine And.intro (by omega) ⟨fun h107 => ?_, fun h107 => ?_⟩
      · have t107 : ¬ (cuHl s net l r 0) e = 1 := (by rw [hhe, ← p104hv]; omega)
        refine And.intro ⟨(by omega), (zRb rfl)⟩ ⟨fun h122 => ?_, fun h122 => ?_⟩
        · refine And.intro ⟨(by omega), (zRb rfl)⟩ ⟨fun h151 => ?_, (fun h151 => False.elim (by omega))⟩
          refine ⟨((20 - r), (40 - (e + 1)), 99), zlt6 (by omega), [some (zvr (165)), some (zvi (net)), some (zvi (l)), some (zvi (0)), some (zvi (bW s)), some (zvi (bH s)), some (zvi (r)), some (zvi ((e + 1))), none], ⟨rfl, rfl, rfl, rfl, rfl, rfl, rfl, rfl, rfl⟩, r, (e + 1), rfl, rfl, rfl, rfl, rfl, rfl, (by omega), (by omega), (by first | exact cuR_n t74 | exact cuR_n t107), ?_, (fun c j h0 => ((fr c j h0).trans rfl))⟩
          · have hNE : ¬ (cuHl s net l r 0) e = 1 := by first | exact t74 | exact t107
            first
            | (refine p171h42.trans ?_
               rw [(cuLa_y hee.1 hRe hLe hNE (mk := (cuMk net l r 0)) (by omega)).2, ← List.append_assoc, List.length_append (as := ((w ++ cuC (fun r => cuLn s net l r 0) r) ++ cuL (cuMk net l r 0) (cuHl s net l r 0) kk))]
               show _ = ((_ + 1 : Nat) : Int)
               omega)
            | exact hM.trans (by rw [(cuLa_n hRe hLe hNE (mk := (cuMk net l r 0)) (by omega)).2])
        · refine And.intro (zRb rfl) (zbt rfl ?_)
          refine And.intro ⟨(by omega), (zRb rfl)⟩ ⟨(fun h151 => False.elim (by omega)), fun h151 => ?_⟩
          refine And.intro (zRb rfl) (zbf rfl ?_)
          refine And.intro (zA_165 hS) ⟨_, sn_Y_row0.up (by decide), ?_⟩
          refine ⟨(net : Int), (l : Int), (r : Int), (kk : Int), (r : Int), ((e - 1) : Int), ((w ++ cuC (fun r => cuLn s net l r 0) r) ++ cuL (cuMk net l r 0) (cuHl s net l r 0) kk).length, rfl, hS, hR, hmk1, hM, (by omega), (by omega), ?_⟩
          intro I171o p171h42 p171bfr
          refine ⟨((20 - r), (40 - (e + 1)), 99), zlt6 (by omega), [some (zvr (165)), some (zvi (net)), some (zvi (l)), some (zvi (0)), some (zvi (bW s)), some (zvi (bH s)), some (zvi (r)), some (zvi ((e + 1))), none], ⟨rfl, rfl, rfl, rfl, rfl, rfl, rfl, rfl, rfl⟩, r, (e + 1), rfl, rfl, rfl, rfl, rfl, rfl, (by omega), (by omega), (by first | exact cuR_n t74 | exact cuR_n t107), ?_, (fun c j h0 => ((p171bfr c j h0).trans ((fr c j h0).trans rfl)))⟩
          · have hNE : ¬ (cuHl s net l r 0) e = 1 := by first | exact t74 | exact t107
            first
            | (refine p171h42.trans ?_
               rw [(cuLa_y hee.1 hRe hLe hNE (mk := (cuMk net l r 0)) (by omega)).2, ← List.append_assoc, List.length_append (as := ((w ++ cuC (fun r => cuLn s net l r 0) r) ++ cuL (cuMk net l r 0) (cuHl s net l r 0) kk))]
               show _ = ((_ + 1 : Nat) : Int)
               omega)
            | exact hM.trans (by rw [(cuLa_n hRe hLe hNE (mk := (cuMk net l r 0)) (by omega)).2])
      · have t107 : (cuHl s net l r 0) e = 1 := (by rw [hhe, ← p104hv]; rcases p104bhv2 with z9 | z9 <;> omega)
        refine ⟨((20 - r), (40 - kk), (40 - (e + 1))), zlt6 (by omega), [some (zvr (165)), some (zvi (net)), some (zvi (l)), some (zvi (0)), some (zvi (bW s)), some (zvi (bH s)), some (zvi (r)), some (zvi (kk)), some (zvi ((e + 1)))], ⟨rfl, rfl, rfl, rfl, rfl, rfl, rfl, rfl, rfl, rfl⟩, r, kk, (e + 1), rfl, rfl, rfl, rfl, rfl, rfl, (by omega), (by omega), (by omega), (cuLa_s hee.1 hRe hLe t107).1, (cuLa_s hee.1 hRe hLe t107).2, hM, (fun c j h0 => ((fr c j h0).trans rfl))⟩)
