/-! yj -/
def T_Y_run1 : ZT := fun args I L R S Q => ∃ (k : Nat) (q : Nat) (d : Nat) (g : Nat) (w : List CuR) (pc : Nat) (s : BdS) (net : Int) (l : Nat) (D : Int), args = [zvr 165, zvi net, zvi l, zvi 1] ∧ (zSh S) ∧ (zRs R) ∧ (R 165 32 = some k) ∧ (zDy zT14 zF14 k R S) ∧ (R 165 31 = some q) ∧ (zDy zT15 zF15 q R S) ∧ (R 165 43 = some d) ∧ (zDy zT16 zF16 d R S) ∧ (R 165 12 = some g) ∧ (zDy zT17 zF17 g R S) ∧ (zBB g (-1) s I L) ∧ (bGd s) ∧ (zMK k q d w pc D I L) ∧ ((302 ≤ k ∧ 302 ≤ q ∧ 302 ≤ d ∧ 302 ≤ g) ∧ (k + 17 < q ∨ q + 13 < k) ∧ (k + 17 < d ∨ d + 21 < k) ∧ (q + 13 < d ∨ d + 21 < q) ∧ (g + 18 < k ∨ k + 17 < g) ∧ (g + 18 < q ∨ q + 13 < g) ∧ (g + 18 < d ∨ d + 21 < g)) ∧ (w.length + (cuC (fun r => cuLn s net l r 1) (bH s)).length ≤ 60) ∧ ((0 ≤ net ∧ net ≤ 11) ∧ l ≤ 3 ∧ (l : Int) < D) ∧ ∀ (I' : ZI) (L' : ZI), (zMK k q d (w ++ cuC (fun r => cuLn s net l r 1) (bH s)) pc D I' L') → (∀ c j : Nat, ¬ (c = 165 ∧ j = 42) → ¬ (c = 165 ∧ j = 35) → ¬ c = 208 → ¬ c = 209 → ¬ c = 210 → ¬ (k ≤ c ∧ c ≤ k + 17) → ¬ (q ≤ c ∧ c ≤ q + 13) → ¬ (d ≤ c ∧ c ≤ d + 21) → I' c j = I c j) → (∀ c j : Nat, ¬ (k ≤ c ∧ c ≤ k + 17) → ¬ (q ≤ c ∧ c ≤ q + 13) → ¬ (d ≤ c ∧ c ≤ d + 21) → L' c j = L c j) → Q none I' L' R S
theorem sn_Y_run1 : ZSnd 5 21 60 T_Y_run1 := ZSnd.loops (zT21_60 4) (by
  rintro args I L R S Q hz ⟨k, q, d, g, w, pc, s, net, l, D, rfl, hS, hR, hrf, hd, hrc, hdq, hrd, hdd, hg, hdg, hBB, hGd, hMK, hdis, hlen, hr, hQ⟩
  obtain ⟨⟨hbw, hbh, hbd, -, -⟩, -⟩ := id hBB
  obtain ⟨⟨⟨gW1, gW2⟩, ⟨gH1, gH2⟩, ⟨gD1, gD2⟩, gB9⟩, -⟩ := id hGd
  have hmx : cuMx s 1 = bW s := cuMx_1 rfl
  refine ⟨[49, 59, 70], fun nM tM lsM stM I1 L1 R1 S1 => match tM with
      | 49 => ∃ (r : Nat), nM = ((20 - r), 99, 0) ∧ lsM = [some (zvr (165)), some (zvi (net)), some (zvi (l)), some (zvi (1)), some (zvi (bH s)), some (zvi (bW s)), some (zvi (r)), none, none] ∧ stM = [] ∧ R1 = R ∧ S1 = S ∧ (r ≤ bH s) ∧ (zMK k q d (w ++ cuC (fun r => cuLn s net l r 1) r) pc D I1 L1) ∧ (∀ c j : Nat, ¬ (c = 165 ∧ j = 42) → ¬ (c = 165 ∧ j = 35) → ¬ c = 208 → ¬ c = 209 → ¬ c = 210 → ¬ (k ≤ c ∧ c ≤ k + 17) → ¬ (q ≤ c ∧ c ≤ q + 13) → ¬ (d ≤ c ∧ c ≤ d + 21) → I1 c j = I c j) ∧ (∀ c j : Nat, ¬ (k ≤ c ∧ c ≤ k + 17) → ¬ (q ≤ c ∧ c ≤ q + 13) → ¬ (d ≤ c ∧ c ≤ d + 21) → L1 c j = L c j)
      | 59 => ∃ (r : Nat) (kk : Nat), nM = ((20 - r), (40 - kk), 99) ∧ lsM = [some (zvr (165)), some (zvi (net)), some (zvi (l)), some (zvi (1)), some (zvi (bH s)), some (zvi (bW s)), some (zvi (r)), some (zvi (kk)), none] ∧ stM = [] ∧ R1 = R ∧ S1 = S ∧ (r < bH s) ∧ (kk ≤ bW s + 1) ∧ (cuR (cuHl s net l r 1) kk = 0) ∧ (zMK k q d ((w ++ cuC (fun r => cuLn s net l r 1) r) ++ cuL (cuMk net l r 1) (cuHl s net l r 1) kk) pc D I1 L1) ∧ (∀ c j : Nat, ¬ (c = 165 ∧ j = 42) → ¬ (c = 165 ∧ j = 35) → ¬ c = 208 → ¬ c = 209 → ¬ c = 210 → ¬ (k ≤ c ∧ c ≤ k + 17) → ¬ (q ≤ c ∧ c ≤ q + 13) → ¬ (d ≤ c ∧ c ≤ d + 21) → I1 c j = I c j) ∧ (∀ c j : Nat, ¬ (k ≤ c ∧ c ≤ k + 17) → ¬ (q ≤ c ∧ c ≤ q + 13) → ¬ (d ≤ c ∧ c ≤ d + 21) → L1 c j = L c j)
      | 70 => ∃ (r : Nat) (kk : Nat) (e : Nat), nM = ((20 - r), (40 - kk), (40 - e)) ∧ lsM = [some (zvr (165)), some (zvi (net)), some (zvi (l)), some (zvi (1)), some (zvi (bH s)), some (zvi (bW s)), some (zvi (r)), some (zvi (kk)), some (zvi (e))] ∧ stM = [] ∧ R1 = R ∧ S1 = S ∧ (r < bH s) ∧ (kk < bW s) ∧ (kk ≤ e ∧ e ≤ bW s) ∧ (cuR (cuHl s net l r 1) e = e - kk) ∧ (cuL (cuMk net l r 1) (cuHl s net l r 1) e = cuL (cuMk net l r 1) (cuHl s net l r 1) kk) ∧ (zMK k q d ((w ++ cuC (fun r => cuLn s net l r 1) r) ++ cuL (cuMk net l r 1) (cuHl s net l r 1) kk) pc D I1 L1) ∧ (∀ c j : Nat, ¬ (c = 165 ∧ j = 42) → ¬ (c = 165 ∧ j = 35) → ¬ c = 208 → ¬ c = 209 → ¬ c = 210 → ¬ (k ≤ c ∧ c ≤ k + 17) → ¬ (q ≤ c ∧ c ≤ q + 13) → ¬ (d ≤ c ∧ c ≤ d + 21) → I1 c j = I c j) ∧ (∀ c j : Nat, ¬ (k ≤ c ∧ c ≤ k + 17) → ¬ (q ≤ c ∧ c ≤ q + 13) → ¬ (d ≤ c ∧ c ≤ d + 21) → L1 c j = L c j)
      | _ => False, rfl, ?_, ⟨?_, ?_, ?_, True.intro⟩⟩
  · refine And.intro (zRb rfl) (zbf rfl ?_)
    refine And.intro (zA_165 hS) (zrdR (v := some g) hg ?_)
    refine And.intro (zDX hdg 0 rfl) (zrd (v := (bH s)) hbh ?_)
    refine And.intro (zRb rfl) (zbf rfl ?_)
    refine And.intro (zA_165 hS) (zrdR (v := some g) hg ?_)
    refine And.intro (zDX hdg 0 rfl) (zrd (v := (bW s)) hbw ?_)
    refine ⟨((20 - (0 : Nat)), 99, 0), [some (zvr (165)), some (zvi (net)), some (zvi (l)), some (zvi (1)), some (zvi (bH s)), some (zvi (bW s)), some (zvi ((0 : Nat))), none, none], ⟨rfl, rfl, rfl, rfl, rfl, rfl, rfl, rfl⟩, 0, rfl, rfl, rfl, rfl, rfl, (by omega), (zMK_e hMK (List.append_nil w).symm), (fun c j h0 h1 h2 h3 h4 h5 h6 h7 => rfl), (fun c j h0 h1 h2 => rfl)⟩
  · rintro nM lsM stM I1 L1 R1 S1 hz1 ⟨r, rfl, rfl, rfl, rfl, rfl, hrr, hM, fr, frL⟩
    refine And.intro ⟨(by omega), (by omega)⟩ ⟨fun h53 => ?_, fun h53 => ?_⟩
    · refine hQ _ _ (by have e9 : r = bH s := (by omega); subst e9; exact hM) (fun c j h0 h1 h2 h3 h4 h5 h6 h7 => ((fr c j h0 h1 h2 h3 h4 (by omega) (by omega) (by omega)).trans rfl)) (fun c j h0 h1 h2 => ((frL c j (by omega) (by omega) (by omega)).trans rfl))
    · refine ⟨((20 - r), (40 - (0 : Nat)), 99), zlt6 (by omega), [some (zvr (165)), some (zvi (net)), some (zvi (l)), some (zvi (1)), some (zvi (bH s)), some (zvi (bW s)), some (zvi (r)), some (zvi ((0 : Nat))), none], ⟨rfl, rfl, rfl, rfl, rfl, rfl, rfl, rfl, rfl⟩, r, 0, rfl, rfl, rfl, rfl, rfl, (by omega), (by omega), rfl, (zMK_e hM (List.append_nil _).symm), (fun c j h0 h1 h2 h3 h4 h5 h6 h7 => ((fr c j h0 h1 h2 h3 h4 (by omega) (by omega) (by omega)).trans rfl)), (fun c j h0 h1 h2 => ((frL c j (by omega) (by omega) (by omega)).trans rfl))⟩
  · rintro nM lsM stM I1 L1 R1 S1 hz1 ⟨r, kk, rfl, rfl, rfl, rfl, rfl, hrr, hkk, hRk, hM, fr, frL⟩
    refine And.intro ⟨(by omega), (by omega)⟩ ⟨fun h63 => ?_, fun h63 => ?_⟩
    · refine ⟨((20 - (r + 1)), 99, 0), zlt6 (by omega), [some (zvr (165)), some (zvi (net)), some (zvi (l)), some (zvi (1)), some (zvi (bH s)), some (zvi (bW s)), some (zvi ((r + 1))), none, none], ⟨rfl, rfl, rfl, rfl, rfl, rfl, rfl, rfl⟩, (r + 1), rfl, rfl, rfl, rfl, rfl, (by omega), ?_, (fun c j h0 h1 h2 h3 h4 h5 h6 h7 => ((fr c j h0 h1 h2 h3 h4 (by omega) (by omega) (by omega)).trans rfl)), (fun c j h0 h1 h2 => ((frL c j (by omega) (by omega) (by omega)).trans rfl))⟩
      · have e1 : cuL (cuMk net l r 1) (cuHl s net l r 1) (bW s + 1) = cuL (cuMk net l r 1) (cuHl s net l r 1) kk := by
          by_cases z : kk = bW s + 1
          · rw [z]
          · have z2 : kk = bW s := by omega
            rw [← z2, cuL_n (by rw [z2, ← hmx]; exact cuHl_e) (by rw [hRk]; decide)]
        exact zMK_e hM (by
          rw [← e1, List.append_assoc, ← hmx]
          rfl)
    · refine ⟨((20 - r), (40 - kk), (40 - kk)), zlt6 (by omega), [some (zvr (165)), some (zvi (net)), some (zvi (l)), some (zvi (1)), some (zvi (bH s)), some (zvi (bW s)), some (zvi (r)), some (zvi (kk)), some (zvi (kk))], ⟨rfl, rfl, rfl, rfl, rfl, rfl, rfl, rfl, rfl, rfl⟩, r, kk, kk, rfl, rfl, rfl, rfl, rfl, (by omega), (by omega), (by omega), (by rw [hRk]; omega), rfl, hM, (fun c j h0 h1 h2 h3 h4 h5 h6 h7 => ((fr c j h0 h1 h2 h3 h4 (by omega) (by omega) (by omega)).trans rfl)), (fun c j h0 h1 h2 => ((frL c j (by omega) (by omega) (by omega)).trans rfl))⟩
  · rintro nM lsM stM I1 L1 R1 S1 hz1 ⟨r, kk, e, rfl, rfl, rfl, rfl, rfl, hrr, hkk, hee, hRe, hLe, hM, fr, frL⟩
    obtain ⟨⟨m1, m2⟩, ⟨m3, m4⟩, ⟨m5, m6, m7⟩, ⟨m8, m9, m10⟩, m11, m12⟩ := id hM
    have hkl := cuL_ml (mk := (cuMk net l r 1)) (h := (cuHl s net l r 1)) (show kk ≤ e + 1 by omega)
    have hll := cuLn_l (s := s) (net := net) (l := l) (r := r) (al := 1) (e := e) (by omega)
    have hcm := cuC_ml (f := fun r => cuLn s net l r 1) (show r + 1 ≤ bH s by omega)
    have hlw : ((w ++ cuC (fun r => cuLn s net l r 1) r) ++ cuL (cuMk net l r 1) (cuHl s net l r 1) kk).length = w.length + (cuC (fun r => cuLn s net l r 1) r).length + (cuL (cuMk net l r 1) (cuHl s net l r 1) kk).length := (by rw [List.length_append, List.length_append])
    have hhe := cuHl_1 (s := s) (net := net) (l := l) (r := r) (al := 1) (n := e) (by decide)
    refine And.intro ⟨(by omega), (by omega)⟩ ⟨fun h74 => ?_, fun h74 => ?_⟩
    · have t74 : ¬ (cuHl s net l r 1) e = 1 := (by have e9 : e = cuMx s 1 := (by omega); rw [e9]; exact cuHl_e)
      refine And.intro ⟨(by omega), (zRb rfl)⟩ ⟨fun h122 => ?_, fun h122 => ?_⟩
      · refine And.intro ⟨(by omega), (zRb rfl)⟩ ⟨fun h151 => ?_, (fun h151 => False.elim (by omega))⟩
        refine ⟨((20 - r), (40 - (e + 1)), 99), zlt6 (by omega), [some (zvr (165)), some (zvi (net)), some (zvi (l)), some (zvi (1)), some (zvi (bH s)), some (zvi (bW s)), some (zvi (r)), some (zvi ((e + 1))), none], ⟨rfl, rfl, rfl, rfl, rfl, rfl, rfl, rfl, rfl⟩, r, (e + 1), rfl, rfl, rfl, rfl, rfl, (by omega), (by omega), (by first | exact cuR_n t74 | exact cuR_n t91), ?_, (fun c j h0 h1 h2 h3 h4 h5 h6 h7 => ((fr c j h0 h1 h2 h3 h4 (by omega) (by omega) (by omega)).trans rfl)), (fun c j h0 h1 h2 => ((frL c j (by omega) (by omega) (by omega)).trans rfl))⟩
        · have hNE : ¬ (cuHl s net l r 1) e = 1 := by first | exact t74 | exact t91
          first
          | exact zMK_e (zMK_r m4 m7 m10 p142h42 p142bhCk2 p142bbhFr2 p142bbbhPc2 (zDh_fr m5 (fun c j h => p142bbbbfr c j (by omega) (by omega) (by omega) (by omega) (by omega) (by omega) (by omega) (by omega) (by omega) (by omega) (by omega) (by omega) (by omega) (by omega)) (fun c j h => p142bbbbbfrL c j (by omega) (by omega) (by omega) (by omega) (by omega) (by omega) (by omega) (by omega))) (zMh_fr m6 (fun c j h => p142bbbbfr c j (by omega) (by omega) (by omega) (by omega) (by omega) (by omega) (by omega) (by omega) (by omega) (by omega) (by omega) (by omega) (by omega) (by omega))) ⟨⟨(p142bbbbfr k 1 (by omega) (by omega) (by omega) (by omega) (by omega) (by omega) (by omega) (by omega) (by omega) (by omega) (by omega) (by omega) (by omega) (by omega)).trans m8.1, (p142bbbbfr k 11 (by omega) (by omega) (by omega) (by omega) (by omega) (by omega) (by omega) (by omega) (by omega) (by omega) (by omega) (by omega) (by omega) (by omega)).trans m8.2.1, (p142bbbbfr k 23 (by omega) (by omega) (by omega) (by omega) (by omega) (by omega) (by omega) (by omega) (by omega) (by omega) (by omega) (by omega) (by omega) (by omega)).trans m8.2.2⟩, (p142bbbbfr q 1 (by omega) (by omega) (by omega) (by omega) (by omega) (by omega) (by omega) (by omega) (by omega) (by omega) (by omega) (by omega) (by omega) (by omega)).trans m9⟩ ((p142bbbbfr 165 41 (by omega) (by omega) (by omega) (by omega) (by omega) (by omega) (by omega) (by omega) (by omega) (by omega) (by omega) (by omega) (by omega) (by omega)).trans m12)) (by rw [(cuLa_y hee.1 hRe hLe hNE (mk := (cuMk net l r 1)) (by omega)).2, List.append_assoc (w ++ cuC (fun r => cuLn s net l r 1) r), show (cuMk net l r 1) kk (e - 1) = _ from (by
              have z9 : (cuMk net l r 1) kk (e - 1) = cRw 0 net l (16 * (r : Int) + kk) (16 * (r : Int) + ((e : Int) - 1)) := by
                show cRw 0 net l (cuPl r 1 kk) (cuPl r 1 (e - 1)) = _
                rw [cuPl_1 rfl, cuPl_1 rfl, Int.natCast_sub (show 1 ≤ e by omega)]
                rfl
              exact z9)])
          | exact zMK_e hM (by rw [(cuLa_n hRe hLe hNE (mk := (cuMk net l r 1)) (by omega)).2])
      · refine And.intro (zRb rfl) (zbf rfl ?_)
        refine And.intro (zA_165 hS) ⟨_, sn_Y_row1.up (by decide), ?_⟩
        refine ⟨k, q, ((w ++ cuC (fun r => cuLn s net l r 1) r) ++ cuL (cuMk net l r 1) (cuHl s net l r 1) kk), pc, (net : Int), (l : Int), kk, r, ((e : Int) - 1), r, ((w ++ cuC (fun r => cuLn s net l r 1) r) ++ cuL (cuMk net l r 1) (cuHl s net l r 1) kk).length, D, rfl, hS, hR, hrf, hd, hrc, hdq, m12, m11, (by omega), m1, m2, m3, m8.1, m9, m10, (by omega), m4, by
have hNE : ¬ (cuHl s net l r 1) e = 1 := by first | exact t74 | exact t91
have z8 := (cuLa_y hee.1 hRe hLe hNE (mk := (cuMk net l r 1)) (by omega)).2
have z7 := hll
rw [z8, List.length_append] at z7
have z6 : [(cuMk net l r 1) kk (e - 1)].length = 1 := rfl
omega, (by omega), (by omega), ?_⟩
        intro I142o L142o p142h42 p142bhCk2 p142bbhFr2 p142bbbhPc2 p142bbbbfr p142bbbbbfrL
        refine And.intro ⟨(by omega), (zRb rfl)⟩ ⟨(fun h151 => False.elim (by omega)), fun h151 => ?_⟩
        refine And.intro (zRb rfl) (zbt rfl ?_)
        refine ⟨((20 - r), (40 - (e + 1)), 99), zlt6 (by omega), [some (zvr (165)), some (zvi (net)), some (zvi (l)), some (zvi (1)), some (zvi (bH s)), some (zvi (bW s)), some (zvi (r)), some (zvi ((e + 1))), none], ⟨rfl, rfl, rfl, rfl, rfl, rfl, rfl, rfl, rfl⟩, r, (e + 1), rfl, rfl, rfl, rfl, rfl, (by omega), (by omega), (by first | exact cuR_n t74 | exact cuR_n t91), ?_, (fun c j h0 h1 h2 h3 h4 h5 h6 h7 => ((p142bbbbfr c j h0 (by omega) (by omega) (by omega) (by omega) (by omega) (by omega) (by omega) (by omega) (by omega) (by omega) (by omega) (by omega) (by omega)).trans ((fr c j h0 h1 h2 h3 h4 (by omega) (by omega) (by omega)).trans rfl))), (fun c j h0 h1 h2 => ((p142bbbbbfrL c j (by omega) (by omega) (by omega) (by omega) (by omega) (by omega) (by omega) (by omega)).trans ((frL c j (by omega) (by omega) (by omega)).trans rfl)))⟩
        · have hNE : ¬ (cuHl s net l r 1) e = 1 := by first | exact t74 | exact t91
          first
          | exact zMK_e (zMK_r m4 m7 m10 p142h42 p142bhCk2 p142bbhFr2 p142bbbhPc2 (zDh_fr m5 (fun c j h => p142bbbbfr c j (by omega) (by omega) (by omega) (by omega) (by omega) (by omega) (by omega) (by omega) (by omega) (by omega) (by omega) (by omega) (by omega) (by omega)) (fun c j h => p142bbbbbfrL c j (by omega) (by omega) (by omega) (by omega) (by omega) (by omega) (by omega) (by omega))) (zMh_fr m6 (fun c j h => p142bbbbfr c j (by omega) (by omega) (by omega) (by omega) (by omega) (by omega) (by omega) (by omega) (by omega) (by omega) (by omega) (by omega) (by omega) (by omega))) ⟨⟨(p142bbbbfr k 1 (by omega) (by omega) (by omega) (by omega) (by omega) (by omega) (by omega) (by omega) (by omega) (by omega) (by omega) (by omega) (by omega) (by omega)).trans m8.1, (p142bbbbfr k 11 (by omega) (by omega) (by omega) (by omega) (by omega) (by omega) (by omega) (by omega) (by omega) (by omega) (by omega) (by omega) (by omega) (by omega)).trans m8.2.1, (p142bbbbfr k 23 (by omega) (by omega) (by omega) (by omega) (by omega) (by omega) (by omega) (by omega) (by omega) (by omega) (by omega) (by omega) (by omega) (by omega)).trans m8.2.2⟩, (p142bbbbfr q 1 (by omega) (by omega) (by omega) (by omega) (by omega) (by omega) (by omega) (by omega) (by omega) (by omega) (by omega) (by omega) (by omega) (by omega)).trans m9⟩ ((p142bbbbfr 165 41 (by omega) (by omega) (by omega) (by omega) (by omega) (by omega) (by omega) (by omega) (by omega) (by omega) (by omega) (by omega) (by omega) (by omega)).trans m12)) (by rw [(cuLa_y hee.1 hRe hLe hNE (mk := (cuMk net l r 1)) (by omega)).2, List.append_assoc (w ++ cuC (fun r => cuLn s net l r 1) r), show (cuMk net l r 1) kk (e - 1) = _ from (by
              have z9 : (cuMk net l r 1) kk (e - 1) = cRw 0 net l (16 * (r : Int) + kk) (16 * (r : Int) + ((e : Int) - 1)) := by
                show cRw 0 net l (cuPl r 1 kk) (cuPl r 1 (e - 1)) = _
                rw [cuPl_1 rfl, cuPl_1 rfl, Int.natCast_sub (show 1 ≤ e by omega)]
                rfl
              exact z9)])
          | exact zMK_e hM (by rw [(cuLa_n hRe hLe hNE (mk := (cuMk net l r 1)) (by omega)).2])
    · refine And.intro (zRb rfl) (zbf rfl ?_)
      refine And.intro (zA_165 hS) ⟨_, sn_Y_hld.up (by decide), ?_⟩
      refine ⟨g, s, (net : Int), (l : Int), (e : Int), (r : Int), rfl, hS, hR, hg, hdg, (by omega), (zBB_fr hBB (fun c j h => fr c j (by omega) (by omega) (by omega) (by omega) (by omega) (by omega) (by omega) (by omega)) (fun c j h => frL c j (by omega) (by omega) (by omega))), (by first | exact hGd | (clear hQ; grind [xu])), (by omega), ?_⟩
      intro v88o p88hv p88bhv2
      refine And.intro (by omega) ⟨fun h91 => ?_, fun h91 => ?_⟩
      · have t91 : ¬ (cuHl s net l r 1) e = 1 := (by rw [hhe, ← p88hv]; omega)
        refine And.intro ⟨(by omega), (zRb rfl)⟩ ⟨fun h122 => ?_, fun h122 => ?_⟩
        · refine And.intro ⟨(by omega), (zRb rfl)⟩ ⟨fun h151 => ?_, (fun h151 => False.elim (by omega))⟩
          refine ⟨((20 - r), (40 - (e + 1)), 99), zlt6 (by omega), [some (zvr (165)), some (zvi (net)), some (zvi (l)), some (zvi (1)), some (zvi (bH s)), some (zvi (bW s)), some (zvi (r)), some (zvi ((e + 1))), none], ⟨rfl, rfl, rfl, rfl, rfl, rfl, rfl, rfl, rfl⟩, r, (e + 1), rfl, rfl, rfl, rfl, rfl, (by omega), (by omega), (by first | exact cuR_n t74 | exact cuR_n t91), ?_, (fun c j h0 h1 h2 h3 h4 h5 h6 h7 => ((fr c j h0 h1 h2 h3 h4 (by omega) (by omega) (by omega)).trans rfl)), (fun c j h0 h1 h2 => ((frL c j (by omega) (by omega) (by omega)).trans rfl))⟩
          · have hNE : ¬ (cuHl s net l r 1) e = 1 := by first | exact t74 | exact t91
            first
            | exact zMK_e (zMK_r m4 m7 m10 p142h42 p142bhCk2 p142bbhFr2 p142bbbhPc2 (zDh_fr m5 (fun c j h => p142bbbbfr c j (by omega) (by omega) (by omega) (by omega) (by omega) (by omega) (by omega) (by omega) (by omega) (by omega) (by omega) (by omega) (by omega) (by omega)) (fun c j h => p142bbbbbfrL c j (by omega) (by omega) (by omega) (by omega) (by omega) (by omega) (by omega) (by omega))) (zMh_fr m6 (fun c j h => p142bbbbfr c j (by omega) (by omega) (by omega) (by omega) (by omega) (by omega) (by omega) (by omega) (by omega) (by omega) (by omega) (by omega) (by omega) (by omega))) ⟨⟨(p142bbbbfr k 1 (by omega) (by omega) (by omega) (by omega) (by omega) (by omega) (by omega) (by omega) (by omega) (by omega) (by omega) (by omega) (by omega) (by omega)).trans m8.1, (p142bbbbfr k 11 (by omega) (by omega) (by omega) (by omega) (by omega) (by omega) (by omega) (by omega) (by omega) (by omega) (by omega) (by omega) (by omega) (by omega)).trans m8.2.1, (p142bbbbfr k 23 (by omega) (by omega) (by omega) (by omega) (by omega) (by omega) (by omega) (by omega) (by omega) (by omega) (by omega) (by omega) (by omega) (by omega)).trans m8.2.2⟩, (p142bbbbfr q 1 (by omega) (by omega) (by omega) (by omega) (by omega) (by omega) (by omega) (by omega) (by omega) (by omega) (by omega) (by omega) (by omega) (by omega)).trans m9⟩ ((p142bbbbfr 165 41 (by omega) (by omega) (by omega) (by omega) (by omega) (by omega) (by omega) (by omega) (by omega) (by omega) (by omega) (by omega) (by omega) (by omega)).trans m12)) (by rw [(cuLa_y hee.1 hRe hLe hNE (mk := (cuMk net l r 1)) (by omega)).2, List.append_assoc (w ++ cuC (fun r => cuLn s net l r 1) r), show (cuMk net l r 1) kk (e - 1) = _ from (by
                have z9 : (cuMk net l r 1) kk (e - 1) = cRw 0 net l (16 * (r : Int) + kk) (16 * (r : Int) + ((e : Int) - 1)) := by
                  show cRw 0 net l (cuPl r 1 kk) (cuPl r 1 (e - 1)) = _
                  rw [cuPl_1 rfl, cuPl_1 rfl, Int.natCast_sub (show 1 ≤ e by omega)]
                  rfl
                exact z9)])
            | exact zMK_e hM (by rw [(cuLa_n hRe hLe hNE (mk := (cuMk net l r 1)) (by omega)).2])
        · refine And.intro (zRb rfl) (zbf rfl ?_)
          refine And.intro (zA_165 hS) ⟨_, sn_Y_row1.up (by decide), ?_⟩
          refine ⟨k, q, ((w ++ cuC (fun r => cuLn s net l r 1) r) ++ cuL (cuMk net l r 1) (cuHl s net l r 1) kk), pc, (net : Int), (l : Int), kk, r, ((e : Int) - 1), r, ((w ++ cuC (fun r => cuLn s net l r 1) r) ++ cuL (cuMk net l r 1) (cuHl s net l r 1) kk).length, D, rfl, hS, hR, hrf, hd, hrc, hdq, m12, m11, (by omega), m1, m2, m3, m8.1, m9, m10, (by omega), m4, by
have hNE : ¬ (cuHl s net l r 1) e = 1 := by first | exact t74 | exact t91
have z8 := (cuLa_y hee.1 hRe hLe hNE (mk := (cuMk net l r 1)) (by omega)).2
have z7 := hll
rw [z8, List.length_append] at z7
have z6 : [(cuMk net l r 1) kk (e - 1)].length = 1 := rfl
omega, (by omega), (by omega), ?_⟩
          intro I142o L142o p142h42 p142bhCk2 p142bbhFr2 p142bbbhPc2 p142bbbbfr p142bbbbbfrL
          refine And.intro ⟨(by omega), (zRb rfl)⟩ ⟨(fun h151 => False.elim (by omega)), fun h151 => ?_⟩
          refine And.intro (zRb rfl) (zbt rfl ?_)
          refine ⟨((20 - r), (40 - (e + 1)), 99), zlt6 (by omega), [some (zvr (165)), some (zvi (net)), some (zvi (l)), some (zvi (1)), some (zvi (bH s)), some (zvi (bW s)), some (zvi (r)), some (zvi ((e + 1))), none], ⟨rfl, rfl, rfl, rfl, rfl, rfl, rfl, rfl, rfl⟩, r, (e + 1), rfl, rfl, rfl, rfl, rfl, (by omega), (by omega), (by first | exact cuR_n t74 | exact cuR_n t91), ?_, (fun c j h0 h1 h2 h3 h4 h5 h6 h7 => ((p142bbbbfr c j h0 (by omega) (by omega) (by omega) (by omega) (by omega) (by omega) (by omega) (by omega) (by omega) (by omega) (by omega) (by omega) (by omega)).trans ((fr c j h0 h1 h2 h3 h4 (by omega) (by omega) (by omega)).trans rfl))), (fun c j h0 h1 h2 => ((p142bbbbbfrL c j (by omega) (by omega) (by omega) (by omega) (by omega) (by omega) (by omega) (by omega)).trans ((frL c j (by omega) (by omega) (by omega)).trans rfl)))⟩
          · have hNE : ¬ (cuHl s net l r 1) e = 1 := by first | exact t74 | exact t91
            first
            | exact zMK_e (zMK_r m4 m7 m10 p142h42 p142bhCk2 p142bbhFr2 p142bbbhPc2 (zDh_fr m5 (fun c j h => p142bbbbfr c j (by omega) (by omega) (by omega) (by omega) (by omega) (by omega) (by omega) (by omega) (by omega) (by omega) (by omega) (by omega) (by omega) (by omega)) (fun c j h => p142bbbbbfrL c j (by omega) (by omega) (by omega) (by omega) (by omega) (by omega) (by omega) (by omega))) (zMh_fr m6 (fun c j h => p142bbbbfr c j (by omega) (by omega) (by omega) (by omega) (by omega) (by omega) (by omega) (by omega) (by omega) (by omega) (by omega) (by omega) (by omega) (by omega))) ⟨⟨(p142bbbbfr k 1 (by omega) (by omega) (by omega) (by omega) (by omega) (by omega) (by omega) (by omega) (by omega) (by omega) (by omega) (by omega) (by omega) (by omega)).trans m8.1, (p142bbbbfr k 11 (by omega) (by omega) (by omega) (by omega) (by omega) (by omega) (by omega) (by omega) (by omega) (by omega) (by omega) (by omega) (by omega) (by omega)).trans m8.2.1, (p142bbbbfr k 23 (by omega) (by omega) (by omega) (by omega) (by omega) (by omega) (by omega) (by omega) (by omega) (by omega) (by omega) (by omega) (by omega) (by omega)).trans m8.2.2⟩, (p142bbbbfr q 1 (by omega) (by omega) (by omega) (by omega) (by omega) (by omega) (by omega) (by omega) (by omega) (by omega) (by omega) (by omega) (by omega) (by omega)).trans m9⟩ ((p142bbbbfr 165 41 (by omega) (by omega) (by omega) (by omega) (by omega) (by omega) (by omega) (by omega) (by omega) (by omega) (by omega) (by omega) (by omega) (by omega)).trans m12)) (by rw [(cuLa_y hee.1 hRe hLe hNE (mk := (cuMk net l r 1)) (by omega)).2, List.append_assoc (w ++ cuC (fun r => cuLn s net l r 1) r), show (cuMk net l r 1) kk (e - 1) = _ from (by
                have z9 : (cuMk net l r 1) kk (e - 1) = cRw 0 net l (16 * (r : Int) + kk) (16 * (r : Int) + ((e : Int) - 1)) := by
                  show cRw 0 net l (cuPl r 1 kk) (cuPl r 1 (e - 1)) = _
                  rw [cuPl_1 rfl, cuPl_1 rfl, Int.natCast_sub (show 1 ≤ e by omega)]
                  rfl
                exact z9)])
            | exact zMK_e hM (by rw [(cuLa_n hRe hLe hNE (mk := (cuMk net l r 1)) (by omega)).2])
      · have t91 : (cuHl s net l r 1) e = 1 := (by rw [hhe, ← p88hv]; rcases p88bhv2 with z9 | z9 <;> omega)
        refine ⟨((20 - r), (40 - kk), (40 - (e + 1))), zlt6 (by omega), [some (zvr (165)), some (zvi (net)), some (zvi (l)), some (zvi (1)), some (zvi (bH s)), some (zvi (bW s)), some (zvi (r)), some (zvi (kk)), some (zvi ((e + 1)))], ⟨rfl, rfl, rfl, rfl, rfl, rfl, rfl, rfl, rfl, rfl⟩, r, kk, (e + 1), rfl, rfl, rfl, rfl, rfl, (by omega), (by omega), (by omega), (cuLa_s hee.1 hRe hLe t91).1, (cuLa_s hee.1 hRe hLe t91).2, hM, (fun c j h0 h1 h2 h3 h4 h5 h6 h7 => ((fr c j h0 h1 h2 h3 h4 (by omega) (by omega) (by omega)).trans rfl)), (fun c j h0 h1 h2 => ((frL c j (by omega) (by omega) (by omega)).trans rfl))⟩)
def T_Y_run0 : ZT := fun args I L R S Q => ∃ (k : Nat) (q : Nat) (d : Nat) (g : Nat) (w : List CuR) (pc : Nat) (s : BdS) (net : Int) (l : Nat) (D : Int), args = [zvr 165, zvi net, zvi l, zvi 0] ∧ (zSh S) ∧ (zRs R) ∧ (R 165 32 = some k) ∧ (zDy zT14 zF14 k R S) ∧ (R 165 31 = some q) ∧ (zDy zT15 zF15 q R S) ∧ (R 165 43 = some d) ∧ (zDy zT16 zF16 d R S) ∧ (R 165 12 = some g) ∧ (zDy zT17 zF17 g R S) ∧ (zBB g (-1) s I L) ∧ (bGd s) ∧ (zMK k q d w pc D I L) ∧ ((302 ≤ k ∧ 302 ≤ q ∧ 302 ≤ d ∧ 302 ≤ g) ∧ (k + 17 < q ∨ q + 13 < k) ∧ (k + 17 < d ∨ d + 21 < k) ∧ (q + 13 < d ∨ d + 21 < q) ∧ (g + 18 < k ∨ k + 17 < g) ∧ (g + 18 < q ∨ q + 13 < g) ∧ (g + 18 < d ∨ d + 21 < g)) ∧ (w.length + (cuC (fun r => cuLn s net l r 0) (bW s)).length ≤ 60) ∧ ((0 ≤ net ∧ net ≤ 11) ∧ l ≤ 3 ∧ (l : Int) < D) ∧ ∀ (I' : ZI) (L' : ZI), (zMK k q d (w ++ cuC (fun r => cuLn s net l r 0) (bW s)) pc D I' L') → (∀ c j : Nat, ¬ (c = 165 ∧ j = 42) → ¬ (c = 165 ∧ j = 35) → ¬ c = 208 → ¬ c = 209 → ¬ c = 210 → ¬ (k ≤ c ∧ c ≤ k + 17) → ¬ (q ≤ c ∧ c ≤ q + 13) → ¬ (d ≤ c ∧ c ≤ d + 21) → I' c j = I c j) → (∀ c j : Nat, ¬ (k ≤ c ∧ c ≤ k + 17) → ¬ (q ≤ c ∧ c ≤ q + 13) → ¬ (d ≤ c ∧ c ≤ d + 21) → L' c j = L c j) → Q none I' L' R S
theorem sn_Y_run0 : ZSnd 5 21 60 T_Y_run0 := ZSnd.loops (zT21_60 4) (by
  rintro args I L R S Q hz ⟨k, q, d, g, w, pc, s, net, l, D, rfl, hS, hR, hrf, hd, hrc, hdq, hrd, hdd, hg, hdg, hBB, hGd, hMK, hdis, hlen, hr, hQ⟩
  obtain ⟨⟨hbw, hbh, hbd, -, -⟩, -⟩ := id hBB
  obtain ⟨⟨⟨gW1, gW2⟩, ⟨gH1, gH2⟩, ⟨gD1, gD2⟩, gB9⟩, -⟩ := id hGd
  have hmx : cuMx s 0 = bH s := cuMx_0 (by decide)
  refine ⟨[49, 59, 70], fun nM tM lsM stM I1 L1 R1 S1 => match tM with
      | 49 => ∃ (r : Nat), nM = ((20 - r), 99, 0) ∧ lsM = [some (zvr (165)), some (zvi (net)), some (zvi (l)), some (zvi (0)), some (zvi (bW s)), some (zvi (bH s)), some (zvi (r)), none, none] ∧ stM = [] ∧ R1 = R ∧ S1 = S ∧ (r ≤ bW s) ∧ (zMK k q d (w ++ cuC (fun r => cuLn s net l r 0) r) pc D I1 L1) ∧ (∀ c j : Nat, ¬ (c = 165 ∧ j = 42) → ¬ (c = 165 ∧ j = 35) → ¬ c = 208 → ¬ c = 209 → ¬ c = 210 → ¬ (k ≤ c ∧ c ≤ k + 17) → ¬ (q ≤ c ∧ c ≤ q + 13) → ¬ (d ≤ c ∧ c ≤ d + 21) → I1 c j = I c j) ∧ (∀ c j : Nat, ¬ (k ≤ c ∧ c ≤ k + 17) → ¬ (q ≤ c ∧ c ≤ q + 13) → ¬ (d ≤ c ∧ c ≤ d + 21) → L1 c j = L c j)
      | 59 => ∃ (r : Nat) (kk : Nat), nM = ((20 - r), (40 - kk), 99) ∧ lsM = [some (zvr (165)), some (zvi (net)), some (zvi (l)), some (zvi (0)), some (zvi (bW s)), some (zvi (bH s)), some (zvi (r)), some (zvi (kk)), none] ∧ stM = [] ∧ R1 = R ∧ S1 = S ∧ (r < bW s) ∧ (kk ≤ bH s + 1) ∧ (cuR (cuHl s net l r 0) kk = 0) ∧ (zMK k q d ((w ++ cuC (fun r => cuLn s net l r 0) r) ++ cuL (cuMk net l r 0) (cuHl s net l r 0) kk) pc D I1 L1) ∧ (∀ c j : Nat, ¬ (c = 165 ∧ j = 42) → ¬ (c = 165 ∧ j = 35) → ¬ c = 208 → ¬ c = 209 → ¬ c = 210 → ¬ (k ≤ c ∧ c ≤ k + 17) → ¬ (q ≤ c ∧ c ≤ q + 13) → ¬ (d ≤ c ∧ c ≤ d + 21) → I1 c j = I c j) ∧ (∀ c j : Nat, ¬ (k ≤ c ∧ c ≤ k + 17) → ¬ (q ≤ c ∧ c ≤ q + 13) → ¬ (d ≤ c ∧ c ≤ d + 21) → L1 c j = L c j)
      | 70 => ∃ (r : Nat) (kk : Nat) (e : Nat), nM = ((20 - r), (40 - kk), (40 - e)) ∧ lsM = [some (zvr (165)), some (zvi (net)), some (zvi (l)), some (zvi (0)), some (zvi (bW s)), some (zvi (bH s)), some (zvi (r)), some (zvi (kk)), some (zvi (e))] ∧ stM = [] ∧ R1 = R ∧ S1 = S ∧ (r < bW s) ∧ (kk < bH s) ∧ (kk ≤ e ∧ e ≤ bH s) ∧ (cuR (cuHl s net l r 0) e = e - kk) ∧ (cuL (cuMk net l r 0) (cuHl s net l r 0) e = cuL (cuMk net l r 0) (cuHl s net l r 0) kk) ∧ (zMK k q d ((w ++ cuC (fun r => cuLn s net l r 0) r) ++ cuL (cuMk net l r 0) (cuHl s net l r 0) kk) pc D I1 L1) ∧ (∀ c j : Nat, ¬ (c = 165 ∧ j = 42) → ¬ (c = 165 ∧ j = 35) → ¬ c = 208 → ¬ c = 209 → ¬ c = 210 → ¬ (k ≤ c ∧ c ≤ k + 17) → ¬ (q ≤ c ∧ c ≤ q + 13) → ¬ (d ≤ c ∧ c ≤ d + 21) → I1 c j = I c j) ∧ (∀ c j : Nat, ¬ (k ≤ c ∧ c ≤ k + 17) → ¬ (q ≤ c ∧ c ≤ q + 13) → ¬ (d ≤ c ∧ c ≤ d + 21) → L1 c j = L c j)
      | _ => False, rfl, ?_, ⟨?_, ?_, ?_, True.intro⟩⟩
  · refine And.intro (zRb rfl) (zbt rfl ?_)
    refine And.intro (zA_165 hS) (zrdR (v := some g) hg ?_)
    refine And.intro (zDX hdg 0 rfl) (zrd (v := (bW s)) hbw ?_)
    refine And.intro (zRb rfl) (zbt rfl ?_)
    refine And.intro (zA_165 hS) (zrdR (v := some g) hg ?_)
    refine And.intro (zDX hdg 0 rfl) (zrd (v := (bH s)) hbh ?_)
    refine ⟨((20 - (0 : Nat)), 99, 0), [some (zvr (165)), some (zvi (net)), some (zvi (l)), some (zvi (0)), some (zvi (bW s)), some (zvi (bH s)), some (zvi ((0 : Nat))), none, none], ⟨rfl, rfl, rfl, rfl, rfl, rfl, rfl, rfl⟩, 0, rfl, rfl, rfl, rfl, rfl, (by omega), (zMK_e hMK (List.append_nil w).symm), (fun c j h0 h1 h2 h3 h4 h5 h6 h7 => rfl), (fun c j h0 h1 h2 => rfl)⟩
  · rintro nM lsM stM I1 L1 R1 S1 hz1 ⟨r, rfl, rfl, rfl, rfl, rfl, hrr, hM, fr, frL⟩
    refine And.intro ⟨(by omega), (by omega)⟩ ⟨fun h53 => ?_, fun h53 => ?_⟩
    · refine hQ _ _ (by have e9 : r = bW s := (by omega); subst e9; exact hM) (fun c j h0 h1 h2 h3 h4 h5 h6 h7 => ((fr c j h0 h1 h2 h3 h4 (by omega) (by omega) (by omega)).trans rfl)) (fun c j h0 h1 h2 => ((frL c j (by omega) (by omega) (by omega)).trans rfl))
    · refine ⟨((20 - r), (40 - (0 : Nat)), 99), zlt6 (by omega), [some (zvr (165)), some (zvi (net)), some (zvi (l)), some (zvi (0)), some (zvi (bW s)), some (zvi (bH s)), some (zvi (r)), some (zvi ((0 : Nat))), none], ⟨rfl, rfl, rfl, rfl, rfl, rfl, rfl, rfl, rfl⟩, r, 0, rfl, rfl, rfl, rfl, rfl, (by omega), (by omega), rfl, (zMK_e hM (List.append_nil _).symm), (fun c j h0 h1 h2 h3 h4 h5 h6 h7 => ((fr c j h0 h1 h2 h3 h4 (by omega) (by omega) (by omega)).trans rfl)), (fun c j h0 h1 h2 => ((frL c j (by omega) (by omega) (by omega)).trans rfl))⟩
  · rintro nM lsM stM I1 L1 R1 S1 hz1 ⟨r, kk, rfl, rfl, rfl, rfl, rfl, hrr, hkk, hRk, hM, fr, frL⟩
    refine And.intro ⟨(by omega), (by omega)⟩ ⟨fun h63 => ?_, fun h63 => ?_⟩
    · refine ⟨((20 - (r + 1)), 99, 0), zlt6 (by omega), [some (zvr (165)), some (zvi (net)), some (zvi (l)), some (zvi (0)), some (zvi (bW s)), some (zvi (bH s)), some (zvi ((r + 1))), none, none], ⟨rfl, rfl, rfl, rfl, rfl, rfl, rfl, rfl⟩, (r + 1), rfl, rfl, rfl, rfl, rfl, (by omega), ?_, (fun c j h0 h1 h2 h3 h4 h5 h6 h7 => ((fr c j h0 h1 h2 h3 h4 (by omega) (by omega) (by omega)).trans rfl)), (fun c j h0 h1 h2 => ((frL c j (by omega) (by omega) (by omega)).trans rfl))⟩
      · have e1 : cuL (cuMk net l r 0) (cuHl s net l r 0) (bH s + 1) = cuL (cuMk net l r 0) (cuHl s net l r 0) kk := by
          by_cases z : kk = bH s + 1
          · rw [z]
          · have z2 : kk = bH s := by omega
            rw [← z2, cuL_n (by rw [z2, ← hmx]; exact cuHl_e) (by rw [hRk]; decide)]
        exact zMK_e hM (by
          rw [← e1, List.append_assoc, ← hmx]
          rfl)
    · refine ⟨((20 - r), (40 - kk), (40 - kk)), zlt6 (by omega), [some (zvr (165)), some (zvi (net)), some (zvi (l)), some (zvi (0)), some (zvi (bW s)), some (zvi (bH s)), some (zvi (r)), some (zvi (kk)), some (zvi (kk))], ⟨rfl, rfl, rfl, rfl, rfl, rfl, rfl, rfl, rfl, rfl⟩, r, kk, kk, rfl, rfl, rfl, rfl, rfl, (by omega), (by omega), (by omega), (by rw [hRk]; omega), rfl, hM, (fun c j h0 h1 h2 h3 h4 h5 h6 h7 => ((fr c j h0 h1 h2 h3 h4 (by omega) (by omega) (by omega)).trans rfl)), (fun c j h0 h1 h2 => ((frL c j (by omega) (by omega) (by omega)).trans rfl))⟩
  · rintro nM lsM stM I1 L1 R1 S1 hz1 ⟨r, kk, e, rfl, rfl, rfl, rfl, rfl, hrr, hkk, hee, hRe, hLe, hM, fr, frL⟩
    obtain ⟨⟨m1, m2⟩, ⟨m3, m4⟩, ⟨m5, m6, m7⟩, ⟨m8, m9, m10⟩, m11, m12⟩ := id hM
    have hkl := cuL_ml (mk := (cuMk net l r 0)) (h := (cuHl s net l r 0)) (show kk ≤ e + 1 by omega)
    have hll := cuLn_l (s := s) (net := net) (l := l) (r := r) (al := 0) (e := e) (by omega)
    have hcm := cuC_ml (f := fun r => cuLn s net l r 0) (show r + 1 ≤ bW s by omega)
    have hlw : ((w ++ cuC (fun r => cuLn s net l r 0) r) ++ cuL (cuMk net l r 0) (cuHl s net l r 0) kk).length = w.length + (cuC (fun r => cuLn s net l r 0) r).length + (cuL (cuMk net l r 0) (cuHl s net l r 0) kk).length := (by rw [List.length_append, List.length_append])
    have hhe := cuHl_0 (s := s) (net := net) (l := l) (r := r) (al := 0) (n := e) (by decide)
    refine And.intro ⟨(by omega), (by omega)⟩ ⟨fun h74 => ?_, fun h74 => ?_⟩
    · have t74 : ¬ (cuHl s net l r 0) e = 1 := (by have e9 : e = cuMx s 0 := (by omega); rw [e9]; exact cuHl_e)
      refine And.intro ⟨(by omega), (zRb rfl)⟩ ⟨fun h122 => ?_, fun h122 => ?_⟩
      · refine And.intro ⟨(by omega), (zRb rfl)⟩ ⟨fun h151 => ?_, (fun h151 => False.elim (by omega))⟩
        refine ⟨((20 - r), (40 - (e + 1)), 99), zlt6 (by omega), [some (zvr (165)), some (zvi (net)), some (zvi (l)), some (zvi (0)), some (zvi (bW s)), some (zvi (bH s)), some (zvi (r)), some (zvi ((e + 1))), none], ⟨rfl, rfl, rfl, rfl, rfl, rfl, rfl, rfl, rfl⟩, r, (e + 1), rfl, rfl, rfl, rfl, rfl, (by omega), (by omega), (by first | exact cuR_n t74 | exact cuR_n t107), ?_, (fun c j h0 h1 h2 h3 h4 h5 h6 h7 => ((fr c j h0 h1 h2 h3 h4 (by omega) (by omega) (by omega)).trans rfl)), (fun c j h0 h1 h2 => ((frL c j (by omega) (by omega) (by omega)).trans rfl))⟩
        · have hNE : ¬ (cuHl s net l r 0) e = 1 := by first | exact t74 | exact t107
          first
          | exact zMK_e (zMK_r m4 m7 m10 p171h42 p171bhCk2 p171bbhFr2 p171bbbhPc2 (zDh_fr m5 (fun c j h => p171bbbbfr c j (by omega) (by omega) (by omega) (by omega) (by omega) (by omega) (by omega) (by omega) (by omega) (by omega) (by omega) (by omega) (by omega) (by omega)) (fun c j h => p171bbbbbfrL c j (by omega) (by omega) (by omega) (by omega) (by omega) (by omega) (by omega) (by omega))) (zMh_fr m6 (fun c j h => p171bbbbfr c j (by omega) (by omega) (by omega) (by omega) (by omega) (by omega) (by omega) (by omega) (by omega) (by omega) (by omega) (by omega) (by omega) (by omega))) ⟨⟨(p171bbbbfr k 1 (by omega) (by omega) (by omega) (by omega) (by omega) (by omega) (by omega) (by omega) (by omega) (by omega) (by omega) (by omega) (by omega) (by omega)).trans m8.1, (p171bbbbfr k 11 (by omega) (by omega) (by omega) (by omega) (by omega) (by omega) (by omega) (by omega) (by omega) (by omega) (by omega) (by omega) (by omega) (by omega)).trans m8.2.1, (p171bbbbfr k 23 (by omega) (by omega) (by omega) (by omega) (by omega) (by omega) (by omega) (by omega) (by omega) (by omega) (by omega) (by omega) (by omega) (by omega)).trans m8.2.2⟩, (p171bbbbfr q 1 (by omega) (by omega) (by omega) (by omega) (by omega) (by omega) (by omega) (by omega) (by omega) (by omega) (by omega) (by omega) (by omega) (by omega)).trans m9⟩ ((p171bbbbfr 165 41 (by omega) (by omega) (by omega) (by omega) (by omega) (by omega) (by omega) (by omega) (by omega) (by omega) (by omega) (by omega) (by omega) (by omega)).trans m12)) (by rw [(cuLa_y hee.1 hRe hLe hNE (mk := (cuMk net l r 0)) (by omega)).2, List.append_assoc (w ++ cuC (fun r => cuLn s net l r 0) r), show (cuMk net l r 0) kk (e - 1) = _ from (by
              have z9 : (cuMk net l r 0) kk (e - 1) = cRw 0 net l (16 * (kk : Int) + r) (16 * ((e : Int) - 1) + r) := by
                show cRw 0 net l (cuPl r 0 kk) (cuPl r 0 (e - 1)) = _
                rw [cuPl_0 (by decide), cuPl_0 (by decide), Int.natCast_sub (show 1 ≤ e by omega)]
                rfl
              exact z9)])
          | exact zMK_e hM (by rw [(cuLa_n hRe hLe hNE (mk := (cuMk net l r 0)) (by omega)).2])
      · refine And.intro (zRb rfl) (zbt rfl ?_)
        refine And.intro ⟨(by omega), (zRb rfl)⟩ ⟨(fun h151 => False.elim (by omega)), fun h151 => ?_⟩
        refine And.intro (zRb rfl) (zbf rfl ?_)
        refine And.intro (zA_165 hS) ⟨_, sn_Y_row1.up (by decide), ?_⟩
        refine ⟨k, q, ((w ++ cuC (fun r => cuLn s net l r 0) r) ++ cuL (cuMk net l r 0) (cuHl s net l r 0) kk), pc, (net : Int), (l : Int), r, kk, r, ((e : Int) - 1), ((w ++ cuC (fun r => cuLn s net l r 0) r) ++ cuL (cuMk net l r 0) (cuHl s net l r 0) kk).length, D, rfl, hS, hR, hrf, hd, hrc, hdq, m12, m11, (by omega), m1, m2, m3, m8.1, m9, m10, (by omega), m4, by
have hNE : ¬ (cuHl s net l r 0) e = 1 := by first | exact t74 | exact t107
have z8 := (cuLa_y hee.1 hRe hLe hNE (mk := (cuMk net l r 0)) (by omega)).2
have z7 := hll
rw [z8, List.length_append] at z7
have z6 : [(cuMk net l r 0) kk (e - 1)].length = 1 := rfl
omega, (by omega), (by omega), ?_⟩
        intro I171o L171o p171h42 p171bhCk2 p171bbhFr2 p171bbbhPc2 p171bbbbfr p171bbbbbfrL
        refine ⟨((20 - r), (40 - (e + 1)), 99), zlt6 (by omega), [some (zvr (165)), some (zvi (net)), some (zvi (l)), some (zvi (0)), some (zvi (bW s)), some (zvi (bH s)), some (zvi (r)), some (zvi ((e + 1))), none], ⟨rfl, rfl, rfl, rfl, rfl, rfl, rfl, rfl, rfl⟩, r, (e + 1), rfl, rfl, rfl, rfl, rfl, (by omega), (by omega), (by first | exact cuR_n t74 | exact cuR_n t107), ?_, (fun c j h0 h1 h2 h3 h4 h5 h6 h7 => ((p171bbbbfr c j h0 (by omega) (by omega) (by omega) (by omega) (by omega) (by omega) (by omega) (by omega) (by omega) (by omega) (by omega) (by omega) (by omega)).trans ((fr c j h0 h1 h2 h3 h4 (by omega) (by omega) (by omega)).trans rfl))), (fun c j h0 h1 h2 => ((p171bbbbbfrL c j (by omega) (by omega) (by omega) (by omega) (by omega) (by omega) (by omega) (by omega)).trans ((frL c j (by omega) (by omega) (by omega)).trans rfl)))⟩
        · have hNE : ¬ (cuHl s net l r 0) e = 1 := by first | exact t74 | exact t107
          first
          | exact zMK_e (zMK_r m4 m7 m10 p171h42 p171bhCk2 p171bbhFr2 p171bbbhPc2 (zDh_fr m5 (fun c j h => p171bbbbfr c j (by omega) (by omega) (by omega) (by omega) (by omega) (by omega) (by omega) (by omega) (by omega) (by omega) (by omega) (by omega) (by omega) (by omega)) (fun c j h => p171bbbbbfrL c j (by omega) (by omega) (by omega) (by omega) (by omega) (by omega) (by omega) (by omega))) (zMh_fr m6 (fun c j h => p171bbbbfr c j (by omega) (by omega) (by omega) (by omega) (by omega) (by omega) (by omega) (by omega) (by omega) (by omega) (by omega) (by omega) (by omega) (by omega))) ⟨⟨(p171bbbbfr k 1 (by omega) (by omega) (by omega) (by omega) (by omega) (by omega) (by omega) (by omega) (by omega) (by omega) (by omega) (by omega) (by omega) (by omega)).trans m8.1, (p171bbbbfr k 11 (by omega) (by omega) (by omega) (by omega) (by omega) (by omega) (by omega) (by omega) (by omega) (by omega) (by omega) (by omega) (by omega) (by omega)).trans m8.2.1, (p171bbbbfr k 23 (by omega) (by omega) (by omega) (by omega) (by omega) (by omega) (by omega) (by omega) (by omega) (by omega) (by omega) (by omega) (by omega) (by omega)).trans m8.2.2⟩, (p171bbbbfr q 1 (by omega) (by omega) (by omega) (by omega) (by omega) (by omega) (by omega) (by omega) (by omega) (by omega) (by omega) (by omega) (by omega) (by omega)).trans m9⟩ ((p171bbbbfr 165 41 (by omega) (by omega) (by omega) (by omega) (by omega) (by omega) (by omega) (by omega) (by omega) (by omega) (by omega) (by omega) (by omega) (by omega)).trans m12)) (by rw [(cuLa_y hee.1 hRe hLe hNE (mk := (cuMk net l r 0)) (by omega)).2, List.append_assoc (w ++ cuC (fun r => cuLn s net l r 0) r), show (cuMk net l r 0) kk (e - 1) = _ from (by
              have z9 : (cuMk net l r 0) kk (e - 1) = cRw 0 net l (16 * (kk : Int) + r) (16 * ((e : Int) - 1) + r) := by
                show cRw 0 net l (cuPl r 0 kk) (cuPl r 0 (e - 1)) = _
                rw [cuPl_0 (by decide), cuPl_0 (by decide), Int.natCast_sub (show 1 ≤ e by omega)]
                rfl
              exact z9)])
          | exact zMK_e hM (by rw [(cuLa_n hRe hLe hNE (mk := (cuMk net l r 0)) (by omega)).2])
    · refine And.intro (zRb rfl) (zbt rfl ?_)
      refine And.intro (zA_165 hS) ⟨_, sn_Y_hld.up (by decide), ?_⟩
      refine ⟨g, s, (net : Int), (l : Int), (r : Int), (e : Int), rfl, hS, hR, hg, hdg, (by omega), (zBB_fr hBB (fun c j h => fr c j (by omega) (by omega) (by omega) (by omega) (by omega) (by omega) (by omega) (by omega)) (fun c j h => frL c j (by omega) (by omega) (by omega))), (by first | exact hGd | (clear hQ; grind [xu])), (by omega), ?_⟩
      intro v104o p104hv p104bhv2
      refine And.intro (by omega) ⟨fun h107 => ?_, fun h107 => ?_⟩
      · have t107 : ¬ (cuHl s net l r 0) e = 1 := (by rw [hhe, ← p104hv]; omega)
        refine And.intro ⟨(by omega), (zRb rfl)⟩ ⟨fun h122 => ?_, fun h122 => ?_⟩
        · refine And.intro ⟨(by omega), (zRb rfl)⟩ ⟨fun h151 => ?_, (fun h151 => False.elim (by omega))⟩
          refine ⟨((20 - r), (40 - (e + 1)), 99), zlt6 (by omega), [some (zvr (165)), some (zvi (net)), some (zvi (l)), some (zvi (0)), some (zvi (bW s)), some (zvi (bH s)), some (zvi (r)), some (zvi ((e + 1))), none], ⟨rfl, rfl, rfl, rfl, rfl, rfl, rfl, rfl, rfl⟩, r, (e + 1), rfl, rfl, rfl, rfl, rfl, (by omega), (by omega), (by first | exact cuR_n t74 | exact cuR_n t107), ?_, (fun c j h0 h1 h2 h3 h4 h5 h6 h7 => ((fr c j h0 h1 h2 h3 h4 (by omega) (by omega) (by omega)).trans rfl)), (fun c j h0 h1 h2 => ((frL c j (by omega) (by omega) (by omega)).trans rfl))⟩
          · have hNE : ¬ (cuHl s net l r 0) e = 1 := by first | exact t74 | exact t107
            first
            | exact zMK_e (zMK_r m4 m7 m10 p171h42 p171bhCk2 p171bbhFr2 p171bbbhPc2 (zDh_fr m5 (fun c j h => p171bbbbfr c j (by omega) (by omega) (by omega) (by omega) (by omega) (by omega) (by omega) (by omega) (by omega) (by omega) (by omega) (by omega) (by omega) (by omega)) (fun c j h => p171bbbbbfrL c j (by omega) (by omega) (by omega) (by omega) (by omega) (by omega) (by omega) (by omega))) (zMh_fr m6 (fun c j h => p171bbbbfr c j (by omega) (by omega) (by omega) (by omega) (by omega) (by omega) (by omega) (by omega) (by omega) (by omega) (by omega) (by omega) (by omega) (by omega))) ⟨⟨(p171bbbbfr k 1 (by omega) (by omega) (by omega) (by omega) (by omega) (by omega) (by omega) (by omega) (by omega) (by omega) (by omega) (by omega) (by omega) (by omega)).trans m8.1, (p171bbbbfr k 11 (by omega) (by omega) (by omega) (by omega) (by omega) (by omega) (by omega) (by omega) (by omega) (by omega) (by omega) (by omega) (by omega) (by omega)).trans m8.2.1, (p171bbbbfr k 23 (by omega) (by omega) (by omega) (by omega) (by omega) (by omega) (by omega) (by omega) (by omega) (by omega) (by omega) (by omega) (by omega) (by omega)).trans m8.2.2⟩, (p171bbbbfr q 1 (by omega) (by omega) (by omega) (by omega) (by omega) (by omega) (by omega) (by omega) (by omega) (by omega) (by omega) (by omega) (by omega) (by omega)).trans m9⟩ ((p171bbbbfr 165 41 (by omega) (by omega) (by omega) (by omega) (by omega) (by omega) (by omega) (by omega) (by omega) (by omega) (by omega) (by omega) (by omega) (by omega)).trans m12)) (by rw [(cuLa_y hee.1 hRe hLe hNE (mk := (cuMk net l r 0)) (by omega)).2, List.append_assoc (w ++ cuC (fun r => cuLn s net l r 0) r), show (cuMk net l r 0) kk (e - 1) = _ from (by
                have z9 : (cuMk net l r 0) kk (e - 1) = cRw 0 net l (16 * (kk : Int) + r) (16 * ((e : Int) - 1) + r) := by
                  show cRw 0 net l (cuPl r 0 kk) (cuPl r 0 (e - 1)) = _
                  rw [cuPl_0 (by decide), cuPl_0 (by decide), Int.natCast_sub (show 1 ≤ e by omega)]
                  rfl
                exact z9)])
            | exact zMK_e hM (by rw [(cuLa_n hRe hLe hNE (mk := (cuMk net l r 0)) (by omega)).2])
        · refine And.intro (zRb rfl) (zbt rfl ?_)
          refine And.intro ⟨(by omega), (zRb rfl)⟩ ⟨(fun h151 => False.elim (by omega)), fun h151 => ?_⟩
          refine And.intro (zRb rfl) (zbf rfl ?_)
          refine And.intro (zA_165 hS) ⟨_, sn_Y_row1.up (by decide), ?_⟩
          refine ⟨k, q, ((w ++ cuC (fun r => cuLn s net l r 0) r) ++ cuL (cuMk net l r 0) (cuHl s net l r 0) kk), pc, (net : Int), (l : Int), r, kk, r, ((e : Int) - 1), ((w ++ cuC (fun r => cuLn s net l r 0) r) ++ cuL (cuMk net l r 0) (cuHl s net l r 0) kk).length, D, rfl, hS, hR, hrf, hd, hrc, hdq, m12, m11, (by omega), m1, m2, m3, m8.1, m9, m10, (by omega), m4, by
have hNE : ¬ (cuHl s net l r 0) e = 1 := by first | exact t74 | exact t107
have z8 := (cuLa_y hee.1 hRe hLe hNE (mk := (cuMk net l r 0)) (by omega)).2
have z7 := hll
rw [z8, List.length_append] at z7
have z6 : [(cuMk net l r 0) kk (e - 1)].length = 1 := rfl
omega, (by omega), (by omega), ?_⟩
          intro I171o L171o p171h42 p171bhCk2 p171bbhFr2 p171bbbhPc2 p171bbbbfr p171bbbbbfrL
          refine ⟨((20 - r), (40 - (e + 1)), 99), zlt6 (by omega), [some (zvr (165)), some (zvi (net)), some (zvi (l)), some (zvi (0)), some (zvi (bW s)), some (zvi (bH s)), some (zvi (r)), some (zvi ((e + 1))), none], ⟨rfl, rfl, rfl, rfl, rfl, rfl, rfl, rfl, rfl⟩, r, (e + 1), rfl, rfl, rfl, rfl, rfl, (by omega), (by omega), (by first | exact cuR_n t74 | exact cuR_n t107), ?_, (fun c j h0 h1 h2 h3 h4 h5 h6 h7 => ((p171bbbbfr c j h0 (by omega) (by omega) (by omega) (by omega) (by omega) (by omega) (by omega) (by omega) (by omega) (by omega) (by omega) (by omega) (by omega)).trans ((fr c j h0 h1 h2 h3 h4 (by omega) (by omega) (by omega)).trans rfl))), (fun c j h0 h1 h2 => ((p171bbbbbfrL c j (by omega) (by omega) (by omega) (by omega) (by omega) (by omega) (by omega) (by omega)).trans ((frL c j (by omega) (by omega) (by omega)).trans rfl)))⟩
          · have hNE : ¬ (cuHl s net l r 0) e = 1 := by first | exact t74 | exact t107
            first
            | exact zMK_e (zMK_r m4 m7 m10 p171h42 p171bhCk2 p171bbhFr2 p171bbbhPc2 (zDh_fr m5 (fun c j h => p171bbbbfr c j (by omega) (by omega) (by omega) (by omega) (by omega) (by omega) (by omega) (by omega) (by omega) (by omega) (by omega) (by omega) (by omega) (by omega)) (fun c j h => p171bbbbbfrL c j (by omega) (by omega) (by omega) (by omega) (by omega) (by omega) (by omega) (by omega))) (zMh_fr m6 (fun c j h => p171bbbbfr c j (by omega) (by omega) (by omega) (by omega) (by omega) (by omega) (by omega) (by omega) (by omega) (by omega) (by omega) (by omega) (by omega) (by omega))) ⟨⟨(p171bbbbfr k 1 (by omega) (by omega) (by omega) (by omega) (by omega) (by omega) (by omega) (by omega) (by omega) (by omega) (by omega) (by omega) (by omega) (by omega)).trans m8.1, (p171bbbbfr k 11 (by omega) (by omega) (by omega) (by omega) (by omega) (by omega) (by omega) (by omega) (by omega) (by omega) (by omega) (by omega) (by omega) (by omega)).trans m8.2.1, (p171bbbbfr k 23 (by omega) (by omega) (by omega) (by omega) (by omega) (by omega) (by omega) (by omega) (by omega) (by omega) (by omega) (by omega) (by omega) (by omega)).trans m8.2.2⟩, (p171bbbbfr q 1 (by omega) (by omega) (by omega) (by omega) (by omega) (by omega) (by omega) (by omega) (by omega) (by omega) (by omega) (by omega) (by omega) (by omega)).trans m9⟩ ((p171bbbbfr 165 41 (by omega) (by omega) (by omega) (by omega) (by omega) (by omega) (by omega) (by omega) (by omega) (by omega) (by omega) (by omega) (by omega) (by omega)).trans m12)) (by rw [(cuLa_y hee.1 hRe hLe hNE (mk := (cuMk net l r 0)) (by omega)).2, List.append_assoc (w ++ cuC (fun r => cuLn s net l r 0) r), show (cuMk net l r 0) kk (e - 1) = _ from (by
                have z9 : (cuMk net l r 0) kk (e - 1) = cRw 0 net l (16 * (kk : Int) + r) (16 * ((e : Int) - 1) + r) := by
                  show cRw 0 net l (cuPl r 0 kk) (cuPl r 0 (e - 1)) = _
                  rw [cuPl_0 (by decide), cuPl_0 (by decide), Int.natCast_sub (show 1 ≤ e by omega)]
                  rfl
                exact z9)])
            | exact zMK_e hM (by rw [(cuLa_n hRe hLe hNE (mk := (cuMk net l r 0)) (by omega)).2])
      · have t107 : (cuHl s net l r 0) e = 1 := (by rw [hhe, ← p104hv]; rcases p104bhv2 with z9 | z9 <;> omega)
        refine ⟨((20 - r), (40 - kk), (40 - (e + 1))), zlt6 (by omega), [some (zvr (165)), some (zvi (net)), some (zvi (l)), some (zvi (0)), some (zvi (bW s)), some (zvi (bH s)), some (zvi (r)), some (zvi (kk)), some (zvi ((e + 1)))], ⟨rfl, rfl, rfl, rfl, rfl, rfl, rfl, rfl, rfl, rfl⟩, r, kk, (e + 1), rfl, rfl, rfl, rfl, rfl, (by omega), (by omega), (by omega), (cuLa_s hee.1 hRe hLe t107).1, (cuLa_s hee.1 hRe hLe t107).2, hM, (fun c j h0 h1 h2 h3 h4 h5 h6 h7 => ((fr c j h0 h1 h2 h3 h4 (by omega) (by omega) (by omega)).trans rfl)), (fun c j h0 h1 h2 => ((frL c j (by omega) (by omega) (by omega)).trans rfl))⟩)
