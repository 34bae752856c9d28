/-! nj5 -/
def T_J_has : ZT := fun args I L R S Q => ∃ (k : Nat) (d : JdS) (x : Int) (n : Nat) (y : Int) (m : Nat), args = [zvr k, zvi x, zvi y] ∧ (zDy zT18 zF18 k R S) ∧ (zNJ k d I L) ∧ (jGd d) ∧ (zJN k d I) ∧ (x = n ∧ n < 1000000) ∧ (y = m ∧ m < 1000) ∧ ∀ (v : Int), ((v = 1 ∧ jHas d n m) ∨ (v = 0 ∧ ¬ jHas d n m)) → Q (some (zvi (v))) I L R S
theorem sn_J_has : ZSnd 2 18 3 T_J_has := ZSnd.loops (zT18_3 1) (by
  rintro args I L R S Q hz ⟨k, d, x, n, y, m, rfl, hd, hNJ, hJG, hJN, hx, hy, hQ⟩
  have h5 := hd.1
  obtain ⟨⟨n1, n2, n3, n4, n5, n6, n7⟩, nS, nW, nD, nJ, nL, nT, nO, nP, nR⟩ := id hNJ
  obtain ⟨⟨g1, g2, g3, g4, g5, g6⟩, gs, gw, gj, gl, gp, gt⟩ := id hJG
  obtain ⟨rt, hU, hR, hN⟩ := id hJN
  have hzc := zct_le (jFst d) 960
  have hcnt : I k 29 = zct (jFst d) 960 := hN.1
  refine ⟨[2, 26], fun nM tM lsM stM I1 L1 R1 S1 => match tM with
      | 2 => ∃ (l : Nat), nM = ((61 - l), 20, 0) ∧ lsM = [some (zvr (k)), some (zvi (n)), some (zvi (m)), some (zvi (l)), none] ∧ stM = [] ∧ I1 = I ∧ L1 = L ∧ R1 = R ∧ S1 = S ∧ (l ≤ dnl d) ∧ (¬ jHl d n m l 0)
      | 26 => ∃ (l : Nat) (t : Nat), nM = ((61 - l), (17 - t), 0) ∧ lsM = [some (zvr (k)), some (zvi (n)), some (zvi (m)), some (zvi (l)), some (zvi (t))] ∧ stM = [] ∧ I1 = I ∧ L1 = L ∧ R1 = R ∧ S1 = S ∧ (l < dnl d ∧ t ≤ dns d ∧ dL d l 3 = m) ∧ (¬ jHl d n m l t)
      | _ => False, rfl, ?_, ⟨?_, ?_, True.intro⟩⟩
  · refine ⟨((61 - (0 : Nat)), 20, 0), [some (zvr (k)), some (zvi (n)), some (zvi (m)), some (zvi ((0 : Nat))), none], ⟨rfl, (congrArg (fun z => some (zvi z)) (by omega)), (congrArg (fun z => some (zvi z)) (by omega)), rfl, rfl⟩, 0, rfl, rfl, rfl, rfl, rfl, rfl, rfl, (by omega), jHl_0⟩
  · rintro nM lsM stM I1 L1 R1 S1 hz1 ⟨l, rfl, rfl, rfl, rfl, rfl, rfl, rfl, hl, hno⟩
    refine And.intro (zDX hd 0 rfl) (zrd (v := (dnl d)) n4 ?_)
    refine And.intro ⟨(by omega), (by omega)⟩ ⟨fun h7 => ?_, fun h7 => ?_⟩
    · refine And.intro (Or.inl rfl) ?_
      refine hQ _ ?_
      · first
        | exact Or.inl ⟨rfl, l, by omega, by omega, t, by omega, by omega, (zNb_n (n := n) hJG hN hR (x := 1600 + 16 * l + t) (r := v67o.toNat) (by omega) (by omega) (by omega)).1 (by omega)⟩
        | (refine Or.inr ⟨rfl, fun q => ?_⟩
           obtain rfl : l = dnl d := (by omega)
           exact hno (jHl_end.1 q))
    · refine And.intro (zDX hd 0 rfl) (zrdR (v := some (k + 9)) (zDR hd 8 rfl) ?_)
      refine And.intro (zDP hd 9 rfl rfl (by omega) (by omega)) (fun v15 e15 r15 => ?_)
      have f15 : v15 = dL d l 3 := (e15.trans ((congrArg (I1 (k + 9)) (by omega)).trans (nL l (by omega)).2.1))
      refine And.intro ⟨r15, (by omega)⟩ ⟨fun h17 => ?_, fun h17 => ?_⟩
      · refine ⟨((61 - l), (17 - (0 : Nat)), 0), zlt6 (by omega), [some (zvr (k)), some (zvi (n)), some (zvi (m)), some (zvi (l)), some (zvi ((0 : Nat)))], ⟨rfl, rfl, rfl, rfl, rfl, rfl⟩, l, 0, rfl, rfl, rfl, rfl, rfl, rfl, rfl, (by omega), hno⟩
      · refine ⟨((61 - (l + 1)), 20, 0), zlt6 (by omega), [some (zvr (k)), some (zvi (n)), some (zvi (m)), some (zvi ((l + 1))), none], ⟨rfl, rfl, rfl, rfl, rfl⟩, (l + 1), rfl, rfl, rfl, rfl, rfl, rfl, rfl, (by omega), (jHl_l hno (Or.inl (by omega)))⟩
  · rintro nM lsM stM I1 L1 R1 S1 hz1 ⟨l, t, rfl, rfl, rfl, rfl, rfl, rfl, rfl, hl, hno⟩
    refine And.intro (zDX hd 0 rfl) (zrd (v := (dns d)) n1 ?_)
    refine And.intro ⟨(by omega), (by omega)⟩ ⟨fun h32 => ?_, fun h32 => ?_⟩
    · refine ⟨((61 - (l + 1)), 20, 0), zlt6 (by omega), [some (zvr (k)), some (zvi (n)), some (zvi (m)), some (zvi ((l + 1))), none], ⟨rfl, rfl, rfl, rfl, rfl⟩, (l + 1), rfl, rfl, rfl, rfl, rfl, rfl, rfl, (by omega), (jHl_l hno (Or.inr (by omega)))⟩
    · refine And.intro (zDX hd 0 rfl) (zrdR (v := some (k + 2)) (zDR hd 1 rfl) ?_)
      refine And.intro (zDP hd 2 rfl rfl (by omega) (by omega)) (fun v41 e41 r41 => ?_)
      have f41 : v41 = dbs d t := (e41.trans ((congrArg (I1 (k + 2)) (by omega)).trans (nS t (by omega)).2))
      refine And.intro (zDX hd 0 rfl) (zrdR (v := some (k + 8)) (zDR hd 7 rfl) ?_)
      refine And.intro (zDP hd 8 rfl rfl (by omega) (by omega)) (fun v47 e47 r47 => ?_)
      have f47 : v47 = dL d l 0 := (e47.trans ((congrArg (I1 (k + 8)) (by omega)).trans (nL l (by omega)).1))
      refine And.intro ⟨r41, r47⟩ ⟨fun h48 => ?_, fun h48 => ?_⟩
      · refine ⟨((61 - l), (17 - (t + 1)), 0), zlt6 (by omega), [some (zvr (k)), some (zvi (n)), some (zvi (m)), some (zvi (l)), some (zvi ((t + 1)))], ⟨rfl, rfl, rfl, rfl, rfl, rfl⟩, l, (t + 1), rfl, rfl, rfl, rfl, rfl, rfl, rfl, (by omega), ?_⟩
        · refine jHl_t hno (fun w => ?_)
          first
          | (have := w.1; omega)
          | (have e := (zNb_n (n := n) hJG hN hR (x := 1600 + 16 * l + t) (r := v67o.toNat) (by omega) (by omega) (by omega)).2 w.2
             omega)
      · refine And.intro (zDX hd 0 rfl) (zrdR (v := some (k + 19)) (zDR hd 18 rfl) ?_)
        refine And.intro (zDX hd 0 rfl) ⟨_, sn_J_lead.up (by decide), ?_⟩
        refine ⟨k, rt, (((1600 + (16 * l)) + t) : Int), (1600 + 16 * l + t), rfl, hd, hU, ⟨by omega, by omega⟩, ?_⟩
        intro v67o p67hv p67bhv2
        refine And.intro (zDP hd 19 rfl rfl (by omega) (by omega)) (fun v70 e70 r70 => ?_)
        have f70 : v70 = I1 (k + 19) v67o.toNat := e70
        refine And.intro ⟨r70, (by omega)⟩ ⟨fun h72 => ?_, fun h72 => ?_⟩
        · refine ⟨((61 - l), (17 - (t + 1)), 0), zlt6 (by omega), [some (zvr (k)), some (zvi (n)), some (zvi (m)), some (zvi (l)), some (zvi ((t + 1)))], ⟨rfl, rfl, rfl, rfl, rfl, rfl⟩, l, (t + 1), rfl, rfl, rfl, rfl, rfl, rfl, rfl, (by omega), ?_⟩
          · refine jHl_t hno (fun w => ?_)
            first
            | (have := w.1; omega)
            | (have e := (zNb_n (n := n) hJG hN hR (x := 1600 + 16 * l + t) (r := v67o.toNat) (by omega) (by omega) (by omega)).2 w.2
               omega)
        · refine And.intro (Or.inr rfl) ?_
          refine hQ _ ?_
          · first
            | exact Or.inl ⟨rfl, l, by omega, by omega, t, by omega, by omega, (zNb_n (n := n) hJG hN hR (x := 1600 + 16 * l + t) (r := v67o.toNat) (by omega) (by omega) (by omega)).1 (by omega)⟩
            | (refine Or.inr ⟨rfl, fun q => ?_⟩
               obtain rfl : l = dnl d := (by omega)
               exact hno (jHl_end.1 q)))
def T_J_nameOf : ZT := fun args I L R S Q => ∃ (k : Nat) (d : JdS) (x : Int) (n : Nat), args = [zvr k, zvi x] ∧ (zDy zT18 zF18 k R S) ∧ (zNJ k d I L) ∧ (jGd d) ∧ (zJN k d I) ∧ (x = n ∧ n < zct (jFst d) 960) ∧ ∀ (v : Int), (v = jNm d n) → (-61 ≤ v ∧ v ≤ 999) → Q (some (zvi (v))) I L R S
theorem sn_J_nameOf : ZSnd 3 18 25 T_J_nameOf := ZSnd.loops (zT18_25 2) (by
  rintro args I L R S Q hz ⟨k, d, x, n, rfl, hd, hNJ, hJG, hJN, hx, hQ⟩
  have h5 := hd.1
  obtain ⟨⟨n1, n2, n3, n4, n5, n6, n7⟩, nS, nW, nD, nJ, nL, nT, nO, nP, nR⟩ := id hNJ
  obtain ⟨⟨g1, g2, g3, g4, g5, g6⟩, gs, gw, gj, gl, gp, gt⟩ := id hJG
  obtain ⟨rt, hU, hR, hN⟩ := id hJN
  have hzc := zct_le (jFst d) 960
  have hcnt : I k 29 = zct (jFst d) 960 := hN.1
  obtain ⟨i0, z1, z2, z3⟩ := jNo_ex hx.2
  have z4 := hN.2.2.1 i0 z1 z2.1
  have z5 := jNd_lt hJG z2.1
  refine ⟨[4, 50], fun nM tM lsM stM I1 L1 R1 S1 => match tM with
      | 4 => ∃ (m : Nat) (B : Int), nM = (2, (1001 - m), 0) ∧ lsM = [some (zvr (k)), some (zvi (n)), some (zvi (B)), some (zvi (m))] ∧ stM = [] ∧ I1 = I ∧ L1 = L ∧ R1 = R ∧ S1 = S ∧ (m ≤ 1000) ∧ ((B = -1 ∧ ∀ b, b < m → ¬ jHas d n b) ∨ (0 ≤ B ∧ B < m ∧ jHas d n B.toNat ∧ ∀ b, b < B.toNat → ¬ jHas d n b)) ∧ (-1 ≤ B ∧ B ≤ 999)
      | 50 => ∃ (p : Nat) (B : Int), nM = (1, (961 - p), 0) ∧ lsM = [some (zvr (k)), some (zvi (n)), some (zvi (B)), some (zvi (p))] ∧ stM = [] ∧ I1 = I ∧ L1 = L ∧ R1 = R ∧ S1 = S ∧ (B ≠ -1 ∨ p ≤ 16 * (i0 / 16) + jtt d i0) ∧ ((B = -1 ∧ ∀ b, b < 1000 → ¬ jHas d n b) ∨ (0 ≤ B ∧ B < 1000 ∧ jHas d n B.toNat ∧ ∀ b, b < B.toNat → ¬ jHas d n b)) ∧ (-1 ≤ B ∧ B ≤ 999) ∧ (∀ j : Nat, j < p → I (k + 20) j ≠ n) ∧ (p < 961)
      | _ => False, rfl, ?_, ⟨?_, ?_, True.intro⟩⟩
  · refine ⟨(2, (1001 - (0 : Nat)), 0), [some (zvr (k)), some (zvi (n)), some (zvi (((-1) : Int))), some (zvi ((0 : Nat)))], ⟨rfl, (congrArg (fun z => some (zvi z)) (by omega)), (congrArg (fun z => some (zvi z)) (by omega)), rfl, rfl⟩, 0, (-1), rfl, rfl, rfl, rfl, rfl, rfl, rfl, (by omega), (Or.inl ⟨rfl, fun b h => absurd h (Nat.not_lt_zero b)⟩), (by omega)⟩
  · rintro nM lsM stM I1 L1 R1 S1 hz1 ⟨m, B, rfl, rfl, rfl, rfl, rfl, rfl, rfl, hm, hB, hB9⟩
    refine And.intro ⟨(by omega), (zRb rfl)⟩ ⟨fun h8 => ?_, fun h8 => ?_⟩
    · refine ⟨(1, (961 - (0 : Nat)), 0), zlt6 (by omega), [some (zvr (k)), some (zvi (n)), some (zvi (B)), some (zvi ((0 : Nat)))], ⟨rfl, rfl, rfl, rfl, rfl⟩, 0, B, rfl, rfl, rfl, rfl, rfl, rfl, rfl, (Or.inr (Nat.zero_le _)), (by obtain rfl : m = 1000 := (by omega); exact hB), (by omega), (fun j h => absurd h (Nat.not_lt_zero j)), (by omega)⟩
    · refine And.intro ⟨(by omega), (zRb rfl)⟩ ⟨fun h13 => ?_, fun h13 => ?_⟩
      · refine And.intro (zDX hd 0 rfl) ⟨_, sn_J_has.up (by decide), ?_⟩
        refine ⟨k, d, (n : Int), n, (m : Int), m, rfl, hd, (by first | exact (zNJ_fr hNJ (fun c j h => rfl) (fun c j h => rfl)) | (clear hQ; grind [xu])), (by first | exact hJG | (clear hQ; grind [xu])), (by first | exact (zJN_fr hJN (fun c j h => rfl)) | (clear hQ; grind [xu])), ⟨rfl, by omega⟩, (by omega), ?_⟩
        intro v34o p34hv
        refine And.intro (by omega) ⟨fun h37 => ?_, fun h37 => ?_⟩
        · refine ⟨(2, (1001 - (m + 1)), 0), zlt6 (by omega), [some (zvr (k)), some (zvi (n)), some (zvi (B)), some (zvi ((m + 1)))], ⟨rfl, rfl, rfl, rfl, rfl⟩, (m + 1), B, rfl, rfl, rfl, rfl, rfl, rfl, rfl, (by omega), ?_, (by omega)⟩
          · first
            | (have w := (p34hv.resolve_right (fun w => by have := w.1; omega)).2
               rcases hB with q | q
               · exact Or.inr ⟨by omega, by omega, w, fun b hb => q.2 b (by omega)⟩
               · exfalso; omega)
            | (rcases hB with q | q
               · refine Or.inl ⟨q.1, fun b hb => ?_⟩
                 by_cases e : b = m
                 · rw [e]
                   first
                   | exact (p34hv.resolve_left (fun w => by have := w.1; omega)).2
                   | (exfalso; omega)
                 · exact q.2 b (by omega)
               · exact Or.inr ⟨q.1, by omega, q.2.2⟩)
        · refine ⟨(2, (1001 - (m + 1)), 0), zlt6 (by omega), [some (zvr (k)), some (zvi (n)), some (zvi (m)), some (zvi ((m + 1)))], ⟨rfl, rfl, rfl, rfl, rfl⟩, (m + 1), m, rfl, rfl, rfl, rfl, rfl, rfl, rfl, (by omega), ?_, (by omega)⟩
          · first
            | (have w := (p34hv.resolve_right (fun w => by have := w.1; omega)).2
               rcases hB with q | q
               · exact Or.inr ⟨by omega, by omega, w, fun b hb => q.2 b (by omega)⟩
               · exfalso; omega)
            | (rcases hB with q | q
               · refine Or.inl ⟨q.1, fun b hb => ?_⟩
                 by_cases e : b = m
                 · rw [e]
                   first
                   | exact (p34hv.resolve_left (fun w => by have := w.1; omega)).2
                   | (exfalso; omega)
                 · exact q.2 b (by omega)
               · exact Or.inr ⟨q.1, by omega, q.2.2⟩)
      · refine And.intro (zDX hd 0 rfl) (zrdR (v := some (k + 17)) (zDR hd 16 rfl) ?_)
        refine And.intro (zDP hd 17 rfl rfl (by omega) (by omega)) (fun v21 e21 r21 => ?_)
        have f21 : v21 = 0 := (e21.trans ((congrArg (I1 (k + 17)) (by omega)).trans (nR m (by omega))))
        refine And.intro (zDX hd 0 rfl) (zrdR (v := some (k + 17)) (zDR hd 16 rfl) ?_)
        refine And.intro (zDP hd 17 rfl rfl (by omega) (by omega)) (fun v27 e27 r27 => ?_)
        have f27 : v27 = 0 := (e27.trans ((congrArg (I1 (k + 17)) (by omega)).trans (nR B.toNat (by omega))))
        refine And.intro ⟨r21, r27⟩ ⟨fun h28 => ?_, (fun h28 => False.elim (by omega))⟩
        refine ⟨(2, (1001 - (m + 1)), 0), zlt6 (by omega), [some (zvr (k)), some (zvi (n)), some (zvi (B)), some (zvi ((m + 1)))], ⟨rfl, rfl, rfl, rfl, rfl⟩, (m + 1), B, rfl, rfl, rfl, rfl, rfl, rfl, rfl, (by omega), ?_, (by omega)⟩
        · first
          | (have w := (p34hv.resolve_right (fun w => by have := w.1; omega)).2
             rcases hB with q | q
             · exact Or.inr ⟨by omega, by omega, w, fun b hb => q.2 b (by omega)⟩
             · exfalso; omega)
          | (rcases hB with q | q
             · refine Or.inl ⟨q.1, fun b hb => ?_⟩
               by_cases e : b = m
               · rw [e]
                 first
                 | exact (p34hv.resolve_left (fun w => by have := w.1; omega)).2
                 | (exfalso; omega)
               · exact q.2 b (by omega)
             · exact Or.inr ⟨q.1, by omega, q.2.2⟩)
  · rintro nM lsM stM I1 L1 R1 S1 hz1 ⟨p, B, rfl, rfl, rfl, rfl, rfl, rfl, rfl, hp, hB, hB9, hno, hp9⟩
    refine And.intro ⟨(by omega), (zRb rfl)⟩ ⟨fun h52 => ?_, fun h52 => ?_⟩
    · refine And.intro ⟨(by omega), (zRb rfl)⟩ ⟨fun h73 => ?_, (fun h73 => False.elim (by omega))⟩
      refine hQ _ ?_ (by omega)
      · unfold jNm
        rcases hB with q | q
        · first
          | (exfalso; omega)
          | (rw [zlow_no (P := jHas d n) q.2, if_pos rfl]
             have hpn : I1 (k + 20) p = n := (by omega)
             rcases hN.2.2.2 p (by omega) with w | ⟨i, w1, w2, w3⟩
             · exfalso; omega
             · have w4 := hN.2.2.1 i w1 w2
               rw [← w3, hpn] at w4
               have w5 := jNd_lt hJG w2
               rcases zlow_sp (fun i => jV d i ∧ jNo d i = n) 960 with u | u
               · exact absurd ⟨w2, by omega⟩ (u.2 i w1)
               · obtain ⟨r, r1, r2, r3, r4⟩ := u
                 rw [r2, show ((r : Nat) : Int).toNat = r from rfl]
                 have s1 : r ≤ i := (by
                   rcases Nat.lt_or_ge i r with z | z
                   · exact absurd ⟨w2, by omega⟩ (r4 i z)
                   · exact z)
                 have s2 := hN.2.2.1 r r1 r3.1
                 have s3 := jNd_lt hJG r3.1
                 have s4 : p ≤ 16 * (r / 16) + jtt d r := (by
                   rcases Nat.lt_or_ge (16 * (r / 16) + jtt d r) p with z | z
                   · exact absurd (s2.trans (by rw [r3.2])) (hno _ z)
                   · exact z)
                 omega)
        · first
          | (exfalso; omega)
          | (rw [zlow_at (P := jHas d n) (r := B.toNat) q.2.2.1 q.2.2.2 (by omega), if_neg (by omega)]
             omega)
    · refine And.intro (zDX hd 0 rfl) (zrdR (v := some (k + 20)) (zDR hd 19 rfl) ?_)
      refine And.intro (zDP hd 20 rfl rfl (by omega) (by omega)) (fun v60 e60 r60 => ?_)
      have f60 : v60 = I1 (k + 20) p := (e60.trans (congrArg (I1 (k + 20)) (by omega)))
      have f60b : v60 = n ∨ p + 1 ≤ 16 * (i0 / 16) + jtt d i0 := (by by_cases q : p = 16 * (i0 / 16) + jtt d i0; rw [← q] at z4; omega; omega)
      refine And.intro ⟨r60, (by omega)⟩ ⟨fun h62 => ?_, fun h62 => ?_⟩
      · refine And.intro ⟨(by omega), (zRb rfl)⟩ ⟨(fun h73 => False.elim (by omega)), fun h73 => ?_⟩
        refine And.intro ⟨(by omega), (zRb rfl), (by decide)⟩ (zdv (by omega) (fun q80 e80 => ?_))
        refine hQ _ ?_ (by omega)
        · unfold jNm
          rcases hB with q | q
          · first
            | (exfalso; omega)
            | (rw [zlow_no (P := jHas d n) q.2, if_pos rfl]
               have hpn : I1 (k + 20) p = n := (by omega)
               rcases hN.2.2.2 p (by omega) with w | ⟨i, w1, w2, w3⟩
               · exfalso; omega
               · have w4 := hN.2.2.1 i w1 w2
                 rw [← w3, hpn] at w4
                 have w5 := jNd_lt hJG w2
                 rcases zlow_sp (fun i => jV d i ∧ jNo d i = n) 960 with u | u
                 · exact absurd ⟨w2, by omega⟩ (u.2 i w1)
                 · obtain ⟨r, r1, r2, r3, r4⟩ := u
                   rw [r2, show ((r : Nat) : Int).toNat = r from rfl]
                   have s1 : r ≤ i := (by
                     rcases Nat.lt_or_ge i r with z | z
                     · exact absurd ⟨w2, by omega⟩ (r4 i z)
                     · exact z)
                   have s2 := hN.2.2.1 r r1 r3.1
                   have s3 := jNd_lt hJG r3.1
                   have s4 : p ≤ 16 * (r / 16) + jtt d r := (by
                     rcases Nat.lt_or_ge (16 * (r / 16) + jtt d r) p with z | z
                     · exact absurd (s2.trans (by rw [r3.2])) (hno _ z)
                     · exact z)
                   omega)
          · first
            | (exfalso; omega)
            | (rw [zlow_at (P := jHas d n) (r := B.toNat) q.2.2.1 q.2.2.2 (by omega), if_neg (by omega)]
               omega)
      · refine ⟨(1, (961 - (p + 1)), 0), zlt6 (by omega), [some (zvr (k)), some (zvi (n)), some (zvi (B)), some (zvi ((p + 1)))], ⟨rfl, rfl, rfl, rfl, rfl⟩, (p + 1), B, rfl, rfl, rfl, rfl, rfl, rfl, rfl, (Or.inr (by omega)), (by first | exact hB | (clear hQ; grind [xu])), (by omega), ?_, (by omega)⟩
        · intro j hj
          by_cases e : j = p
          · rw [e]; omega
          · exact hno j (by omega))
def T_J_name : ZT := fun args I L R S Q => ∃ (k : Nat) (d : JdS) (n : Int), args = [zvr k, zvi n] ∧ (zDy zT18 zF18 k R S) ∧ (zNJ k d I L) ∧ (jGd d) ∧ (zJN k d I) ∧ (r32 n) ∧ ∀ (v : Int) (I' : ZI), ((I' k 0 = 0 ∧ v = jNmI d n) ∨ (I' k 0 = 1 ∧ jNmI d n = -1000)) → (∀ c j : Nat, ¬ (c = k ∧ j = 0) → I' c j = I c j) → Q (some (zvi (v))) I' L R S
theorem sn_J_name : ZSnd 4 18 23 T_J_name := ZSnd.of (zT18_23 3) (by
  rintro args I L R S Q hz ⟨k, d, n, rfl, hd, hNJ, hJG, hJN, hr, hQ⟩
  have h5 := hd.1
  obtain ⟨⟨n1, n2, n3, n4, n5, n6, n7⟩, nS, nW, nD, nJ, nL, nT, nO, nP, nR⟩ := id hNJ
  obtain ⟨⟨g1, g2, g3, g4, g5, g6⟩, gs, gw, gj, gl, gp, gt⟩ := id hJG
  obtain ⟨rt, hU, hR, hN⟩ := id hJN
  have hzc := zct_le (jFst d) 960
  have hcnt : I k 29 = zct (jFst d) 960 := hN.1
  refine And.intro rfl ?_
  refine And.intro (by omega) ⟨fun h2 => ?_, fun h2 => ?_⟩
  · refine And.intro (zDX hd 0 rfl) ⟨_, (zWi (zRb rfl)), ?_⟩
    refine And.intro (zDX hd 0 rfl) (zrd (v := 1) zxe ?_)
    refine And.intro (zRb rfl) (zbt rfl ?_)
    refine hQ _ _ ?_ (fun c j h0 => (zxcj h0 rfl))
    · unfold jNmI
      first
      | (refine Or.inl ⟨zxe, ?_⟩
         rw [if_pos (by omega)]
         exact p30hv)
      | (refine Or.inr ⟨zxe, ?_⟩
         rw [if_neg (by omega)])
  · refine And.intro (zDX hd 0 rfl) (zrd (v := (zct (jFst d) 960)) hcnt ?_)
    refine And.intro ⟨(by omega), (by omega)⟩ ⟨fun h10 => ?_, fun h10 => ?_⟩
    · refine And.intro (zDX hd 0 rfl) ⟨_, (zWi (zRb rfl)), ?_⟩
      refine And.intro (zDX hd 0 rfl) (zrd (v := 1) zxe ?_)
      refine And.intro (zRb rfl) (zbt rfl ?_)
      refine hQ _ _ ?_ (fun c j h0 => (zxcj h0 rfl))
      · unfold jNmI
        first
        | (refine Or.inl ⟨zxe, ?_⟩
           rw [if_pos (by omega)]
           exact p30hv)
        | (refine Or.inr ⟨zxe, ?_⟩
           rw [if_neg (by omega)])
    · refine And.intro (zDX hd 0 rfl) ⟨_, (zWi (zRb rfl)), ?_⟩
      refine And.intro (zDX hd 0 rfl) (zrd (v := 0) zxe ?_)
      refine And.intro (zRb rfl) (zbf rfl ?_)
      refine And.intro (zDX hd 0 rfl) ⟨_, sn_J_nameOf.up (by decide), ?_⟩
      refine ⟨k, d, (n : Int), n.toNat, rfl, hd, (zNJ_fr hNJ (fun c j h => zxcj (by omega) rfl) (fun c j h => rfl)), (by first | exact hJG | (clear hQ; grind [xu])), (zJN_fr hJN (fun c j h => zxcj (by omega) rfl)), (by omega), ?_⟩
      intro v30o p30hv p30bhv2
      refine hQ _ _ ?_ (fun c j h0 => (zxcj h0 rfl))
      · unfold jNmI
        first
        | (refine Or.inl ⟨zxe, ?_⟩
           rw [if_pos (by omega)]
           exact p30hv)
        | (refine Or.inr ⟨zxe, ?_⟩
           rw [if_neg (by omega)]))
def T_J_bare : ZT := fun args I L R S Q => ∃ (k : Nat) (d : JdS) (x : Int) (l : Nat), args = [zvr k, zvi x] ∧ (zDy zT18 zF18 k R S) ∧ (zNJ k d I L) ∧ (jGd d) ∧ (x = l ∧ l < dnl d) ∧ ∀ (v : Int), ((v = 1 ∧ jBare d l) ∨ (v = 0 ∧ ¬ jBare d l)) → Q (some (zvi (v))) I L R S
theorem sn_J_bare : ZSnd 2 18 6 T_J_bare := ZSnd.loops (zT18_6 1) (by
  rintro args I L R S Q hz ⟨k, d, x, l, rfl, hd, hNJ, hJG, hx, hQ⟩
  have h5 := hd.1
  obtain ⟨⟨n1, n2, n3, n4, n5, n6, n7⟩, nS, nW, nD, nJ, nL, nT, nO, nP, nR⟩ := id hNJ
  obtain ⟨⟨g1, g2, g3, g4, g5, g6⟩, gs, gw, gj, gl, gp, gt⟩ := id hJG
  have gl0 := gl l hx.2
  have gfx : -1000000000 ≤ dL d l 1 ∧ dL d l 1 ≤ 1000000000 := gl0.2.1
  have gfy : -1000000000 ≤ dL d l 2 ∧ dL d l 2 ≤ 1000000000 := gl0.2.2.1
  refine ⟨[32, 75], fun nM tM lsM stM I1 L1 R1 S1 => match tM with
      | 32 => ∃ (i : Nat) (a : Int) (b : Int), nM = (2, (101 - i), 0) ∧ lsM = [some (zvr (k)), some (zvi (l)), some (zvl (a)), none, some (zvl (b)), none, some (zvi (dL d l 0)), some (zvi (i))] ∧ stM = [] ∧ I1 = I ∧ L1 = L ∧ R1 = R ∧ S1 = S ∧ (i ≤ dnw d) ∧ (a = dL d l 1 ∧ b = dL d l 2) ∧ (∀ w, w < i → ¬ (dW d w 0 = dL d l 0 ∧ jTh (dW d) w (dL d l 1) (dL d l 2)))
      | 75 => ∃ (i : Nat) (a : Int) (b : Int), nM = (1, (61 - i), 0) ∧ lsM = [some (zvr (k)), some (zvi (l)), some (zvl (a)), none, some (zvl (b)), none, some (zvi (dL d l 0)), some (zvi (i))] ∧ stM = [] ∧ I1 = I ∧ L1 = L ∧ R1 = R ∧ S1 = S ∧ (i ≤ dnt d) ∧ (a = dL d l 1 ∧ b = dL d l 2) ∧ (∀ w, w < dnw d → ¬ (dW d w 0 = dL d l 0 ∧ jTh (dW d) w (dL d l 1) (dL d l 2))) ∧ (∀ w, w < i → ¬ (dT d w 0 = dL d l 0 ∧ dT d w 1 = dL d l 1 ∧ dT d w 2 = dL d l 2))
      | _ => False, rfl, ?_, ⟨?_, ?_, True.intro⟩⟩
  · refine And.intro (zDX hd 0 rfl) (zrdR (v := some (k + 10)) (zDR hd 9 rfl) ?_)
    refine And.intro (zDP hd 10 rfl rfl (by omega) (by omega)) (fun v7 e7 r7 => ?_)
    have f7 : v7 = dL d l 1 := (e7.trans ((congrArg (L (k + 10)) (by omega)).trans (nL l hx.2).2.2.1))
    refine And.intro (zDX hd 0 rfl) (zrdR (v := some (k + 10)) (zDR hd 9 rfl) ?_)
    refine And.intro (zDP hd 10 rfl rfl (by omega) (by omega)) (fun v18 e18 r18 => ?_)
    have f18 : v18 = dL d l 2 := (e18.trans ((congrArg (L (k + 10)) (by omega)).trans (nL l hx.2).2.2.2))
    refine And.intro (zDX hd 0 rfl) (zrdR (v := some (k + 8)) (zDR hd 7 rfl) ?_)
    refine And.intro (zDP hd 8 rfl rfl (by omega) (by omega)) (fun v26 e26 r26 => ?_)
    have f26 : v26 = dL d l 0 := (e26.trans ((congrArg (I (k + 8)) (by omega)).trans (nL l hx.2).1))
    refine ⟨(2, (101 - (0 : Nat)), 0), [some (zvr (k)), some (zvi (l)), some (zvl (v7)), none, some (zvl (v18)), none, some (zvi (dL d l 0)), some (zvi ((0 : Nat)))], ⟨rfl, (congrArg (fun z => some (zvi z)) (by omega)), rfl, rfl, (congrArg (fun z => some (zvi z)) f26), rfl, rfl⟩, 0, v7, v18, rfl, rfl, rfl, rfl, rfl, rfl, rfl, (by omega), ⟨f7, f18⟩, (fun j h => absurd h (Nat.not_lt_zero j))⟩
  · rintro nM lsM stM I1 L1 R1 S1 hz1 ⟨i, a, b, rfl, rfl, rfl, rfl, rfl, rfl, rfl, hi, hab, hno⟩
    refine And.intro (zDX hd 0 rfl) (zrd (v := (dnw d)) n2 ?_)
    refine And.intro ⟨(by omega), (by omega)⟩ ⟨fun h38 => ?_, fun h38 => ?_⟩
    · refine ⟨(1, (61 - (0 : Nat)), 0), zlt6 (by omega), [some (zvr (k)), some (zvi (l)), some (zvl (a)), none, some (zvl (b)), none, some (zvi (dL d l 0)), some (zvi ((0 : Nat)))], ⟨rfl, rfl, rfl, rfl, rfl, rfl, rfl⟩, 0, a, b, rfl, rfl, rfl, rfl, rfl, rfl, rfl, (by omega), hab, (by obtain rfl : i = dnw d := (by omega); exact hno), (fun j h => absurd h (Nat.not_lt_zero j))⟩
    · refine And.intro (zDX hd 0 rfl) (Exists.intro _ (And.intro (zinl_ok (zT18_9 0)) (And.intro rfl ?_)))
      refine And.intro (zDX hd 0 rfl) (zrdR (v := some (k + 3)) (zDR hd 2 rfl) ?_)
      refine And.intro (zDP hd 3 rfl rfl (by omega) (by omega)) (fun v5_46 e5_46 r5_46 => ?_)
      have f5_46 : v5_46 = dW d i 0 := (e5_46.trans ((congrArg (I1 (k + 3)) (by omega)).trans (nW i (by omega)).1))
      refine And.intro ⟨r5_46, (by omega)⟩ ⟨fun h7_46 => ?_, fun h7_46 => ?_⟩
      · refine And.intro (Or.inl rfl) ?_
        refine And.intro (zRb rfl) (zbt rfl ?_)
        refine ⟨(2, (101 - (i + 1)), 0), zlt6 (by omega), [some (zvr (k)), some (zvi (l)), some (zvl (a)), none, some (zvl (b)), none, some (zvi (dL d l 0)), some (zvi ((i + 1)))], ⟨rfl, rfl, rfl, rfl, rfl, rfl, rfl⟩, (i + 1), a, b, rfl, rfl, rfl, rfl, rfl, rfl, rfl, (by omega), hab, ?_⟩
        · intro w hw
          by_cases e : w = i
          · rw [e]
            intro q
            first
            | (have := q.1; omega)
            | (have z := (p58hv.resolve_left (fun w => by have := w.1; omega)).2
               rw [hab.1, hab.2] at z
               exact z q.2)
          · exact hno w (by omega)
      · refine And.intro (zDX hd 0 rfl) (zrdR (v := some (k + 5)) (zDR hd 4 rfl) ?_)
        refine And.intro (Or.inr (zDP hd 5 rfl rfl (by omega) (by omega))) (fun v15_46 e15_46 r15_46 => ?_)
        have f15_46 : v15_46 = 0 := (e15_46.trans ((congrArg (I1 (k + 5)) (by omega)).trans (nD i (by omega))))
        refine And.intro r15_46 ⟨(fun h16_46 => False.elim (by omega)), fun h16_46 => ?_⟩
        refine And.intro (Or.inr rfl) ?_
        refine And.intro (zRb rfl) (zbf rfl ?_)
        refine And.intro (zDX hd 0 rfl) ⟨_, sn_J_thr.up (by decide), ?_⟩
        refine ⟨k, d, (i : Int), i, (a : Int), (b : Int), rfl, hd, (by first | exact (zNJ_fr hNJ (fun c j h => rfl) (fun c j h => rfl)) | (clear hQ; grind [xu])), (by first | exact hJG | (clear hQ; grind [xu])), (by omega), (by omega), (by rw [hab.1, hab.2]; exact ⟨(gl l hx.2).2.1, (gl l hx.2).2.2.1⟩), ?_⟩
        intro v58o p58hv
        refine And.intro (by omega) ⟨fun h61 => ?_, fun h61 => ?_⟩
        · refine ⟨(2, (101 - (i + 1)), 0), zlt6 (by omega), [some (zvr (k)), some (zvi (l)), some (zvl (a)), none, some (zvl (b)), none, some (zvi (dL d l 0)), some (zvi ((i + 1)))], ⟨rfl, rfl, rfl, rfl, rfl, rfl, rfl⟩, (i + 1), a, b, rfl, rfl, rfl, rfl, rfl, rfl, rfl, (by omega), hab, ?_⟩
          · intro w hw
            by_cases e : w = i
            · rw [e]
              intro q
              first
              | (have := q.1; omega)
              | (have z := (p58hv.resolve_left (fun w => by have := w.1; omega)).2
                 rw [hab.1, hab.2] at z
                 exact z q.2)
            · exact hno w (by omega)
        · refine And.intro (Or.inl rfl) ?_
          refine hQ _ ?_
          · first
            | exact Or.inl ⟨rfl, hnw, fun p hp => hno p (by omega)⟩
            | (refine Or.inr ⟨rfl, fun q => ?_⟩
               first
               | (have z := (p58hv.resolve_right (fun w => by have := w.1; omega)).2
                  rw [hab.1, hab.2] at z
                  exact q.1 i (by omega) ⟨by omega, z⟩)
               | exact q.2 i (by omega) ⟨by omega, by omega, by omega⟩)
  · rintro nM lsM stM I1 L1 R1 S1 hz1 ⟨i, a, b, rfl, rfl, rfl, rfl, rfl, rfl, rfl, hi, hab, hnw, hno⟩
    refine And.intro (zDX hd 0 rfl) (zrd (v := (dnt d)) n5 ?_)
    refine And.intro ⟨(by omega), (by omega)⟩ ⟨fun h81 => ?_, fun h81 => ?_⟩
    · refine And.intro (Or.inr rfl) ?_
      refine hQ _ ?_
      · first
        | exact Or.inl ⟨rfl, hnw, fun p hp => hno p (by omega)⟩
        | (refine Or.inr ⟨rfl, fun q => ?_⟩
           first
           | (have z := (p58hv.resolve_right (fun w => by have := w.1; omega)).2
              rw [hab.1, hab.2] at z
              exact q.1 i (by omega) ⟨by omega, z⟩)
           | exact q.2 i (by omega) ⟨by omega, by omega, by omega⟩)
    · refine And.intro (zDX hd 0 rfl) (zrdR (v := some (k + 11)) (zDR hd 10 rfl) ?_)
      refine And.intro (zDP hd 11 rfl rfl (by omega) (by omega)) (fun v90 e90 r90 => ?_)
      have f90 : v90 = dT d i 0 := (e90.trans ((congrArg (I1 (k + 11)) (by omega)).trans (nT i (by omega)).1))
      refine And.intro ⟨r90, (by omega)⟩ ⟨fun h93 => ?_, fun h93 => ?_⟩
      · refine ⟨(1, (61 - (i + 1)), 0), zlt6 (by omega), [some (zvr (k)), some (zvi (l)), some (zvl (a)), none, some (zvl (b)), none, some (zvi (dL d l 0)), some (zvi ((i + 1)))], ⟨rfl, rfl, rfl, rfl, rfl, rfl, rfl⟩, (i + 1), a, b, rfl, rfl, rfl, rfl, rfl, rfl, rfl, (by omega), hab, hnw, ?_⟩
        · intro w hw
          by_cases e : w = i
          · rw [e]
            intro q
            have q1 := q.1
            have q2 := q.2.1
            have q3 := q.2.2
            omega
          · exact hno w (by omega)
      · refine And.intro (zDX hd 0 rfl) (zrdR (v := some (k + 13)) (zDR hd 12 rfl) ?_)
        refine And.intro (zDP hd 13 rfl rfl (by omega) (by omega)) (fun v104 e104 r104 => ?_)
        have f104 : v104 = dT d i 1 := (e104.trans ((congrArg (L1 (k + 13)) (by omega)).trans (nT i (by omega)).2.2.1))
        refine ⟨_, _, ⟨zW6i r104, zW6i (by omega)⟩, fun z106 c106 => ?_⟩
        refine And.intro c106.2.2 ⟨fun h107 => ?_, fun h107 => ?_⟩
        · refine ⟨(1, (61 - (i + 1)), 0), zlt6 (by omega), [some (zvr (k)), some (zvi (l)), some (zvl (a)), none, some (zvl (b)), none, some (zvi (dL d l 0)), some (zvi ((i + 1)))], ⟨rfl, rfl, rfl, rfl, rfl, rfl, rfl⟩, (i + 1), a, b, rfl, rfl, rfl, rfl, rfl, rfl, rfl, (by omega), hab, hnw, ?_⟩
          · intro w hw
            by_cases e : w = i
            · rw [e]
              intro q
              have q1 := q.1
              have q2 := q.2.1
              have q3 := q.2.2
              omega
            · exact hno w (by omega)
        · refine And.intro (zDX hd 0 rfl) (zrdR (v := some (k + 13)) (zDR hd 12 rfl) ?_)
          refine And.intro (zDP hd 13 rfl rfl (by omega) (by omega)) (fun v120 e120 r120 => ?_)
          have f120 : v120 = dT d i 2 := (e120.trans ((congrArg (L1 (k + 13)) (by omega)).trans (nT i (by omega)).2.2.2))
          refine ⟨_, _, ⟨zW6i r120, zW6i (by omega)⟩, fun z123 c123 => ?_⟩
          refine And.intro c123.2.2 ⟨fun h124 => ?_, fun h124 => ?_⟩
          · refine ⟨(1, (61 - (i + 1)), 0), zlt6 (by omega), [some (zvr (k)), some (zvi (l)), some (zvl (a)), none, some (zvl (b)), none, some (zvi (dL d l 0)), some (zvi ((i + 1)))], ⟨rfl, rfl, rfl, rfl, rfl, rfl, rfl⟩, (i + 1), a, b, rfl, rfl, rfl, rfl, rfl, rfl, rfl, (by omega), hab, hnw, ?_⟩
            · intro w hw
              by_cases e : w = i
              · rw [e]
                intro q
                have q1 := q.1
                have q2 := q.2.1
                have q3 := q.2.2
                omega
              · exact hno w (by omega)
          · refine And.intro (Or.inl rfl) ?_
            refine hQ _ ?_
            · first
              | exact Or.inl ⟨rfl, hnw, fun p hp => hno p (by omega)⟩
              | (refine Or.inr ⟨rfl, fun q => ?_⟩
                 first
                 | (have z := (p58hv.resolve_right (fun w => by have := w.1; omega)).2
                    rw [hab.1, hab.2] at z
                    exact q.1 i (by omega) ⟨by omega, z⟩)
                 | exact q.2 i (by omega) ⟨by omega, by omega, by omega⟩))
def T_J_told : ZT := fun args I L R S Q => ∃ (k : Nat) (d : JdS) (y : Int), args = [zvr k, zvi y] ∧ (zDy zT18 zF18 k R S) ∧ (zNJ k d I L) ∧ (jGd d) ∧ (zJN k d I) ∧ (r32 y) ∧ ∀ (v : Int) (I' : ZI), (v = jRm d y) → (∀ c j : Nat, ¬ (c = k ∧ j = 0) → I' c j = I c j) → Q (some (zvi (v))) I' L R S
theorem sn_J_told : ZSnd 4 18 34 T_J_told := ZSnd.loops (zT18_34 3) (by
  rintro args I L R S Q hz ⟨k, d, y, rfl, hd, hNJ, hJG, hJN, hr, hQ⟩
  have h5 := hd.1
  obtain ⟨⟨n1, n2, n3, n4, n5, n6, n7⟩, nS, nW, nD, nJ, nL, nT, nO, nP, nR⟩ := id hNJ
  obtain ⟨⟨g1, g2, g3, g4, g5, g6⟩, gs, gw, gj, gl, gp, gt⟩ := id hJG
  obtain ⟨rt, hU, hR, hN⟩ := id hJN
  have hzc := zct_le (jFst d) 960
  have hcnt : I k 29 = zct (jFst d) 960 := hN.1
  refine ⟨[15, 33, 96, 135], fun nM tM lsM stM I1 L1 R1 S1 => match tM with
      | 15 => ∃ (n : Nat) (l : Int), nM = (4, (961 - n), 1001) ∧ lsM = [some (zvr (k)), some (zvi (y)), some (zvi (l)), some (zvi (n)), none, none] ∧ stM = [] ∧ L1 = L ∧ R1 = R ∧ S1 = S ∧ (n ≤ zct (jFst d) 960 ∧ 0 ≤ y) ∧ (l = y - zct (jRk d) (1000 * n) ∧ 0 ≤ l) ∧ (∀ c j : Nat, ¬ (c = k ∧ j = 0) → I1 c j = I c j)
      | 33 => ∃ (n : Nat) (m : Nat) (l : Int) (w : Int), nM = (4, (961 - n), (1000 - m)) ∧ lsM = [some (zvr (k)), some (zvi (y)), some (zvi (l)), some (zvi (n)), some (zvi (w)), some (zvi (m))] ∧ stM = [] ∧ L1 = L ∧ R1 = R ∧ S1 = S ∧ (n < zct (jFst d) 960 ∧ 0 ≤ y ∧ m ≤ 1000) ∧ (w = jNm d n ∧ -61 ≤ w ∧ w ≤ 999) ∧ (l = y - zct (jRk d) (1000 * n + m) ∧ 0 ≤ l) ∧ (∀ c j : Nat, ¬ (c = k ∧ j = 0) → I1 c j = I c j)
      | 96 => ∃ (i : Nat) (l : Int), nM = (3, (61 - i), 0) ∧ lsM = [some (zvr (k)), some (zvi (y)), some (zvi (l)), some (zvi (i)), none, none] ∧ stM = [] ∧ L1 = L ∧ R1 = R ∧ S1 = S ∧ (i ≤ dnl d ∧ 0 ≤ y) ∧ (l = y - zct (jRk d) (1000 * zct (jFst d) 960) - zct (jBare d) i ∧ 0 ≤ l) ∧ (∀ c j : Nat, ¬ (c = k ∧ j = 0) → I1 c j = I c j)
      | 135 => ∃ (i : Nat) (l : Int), nM = (2, (61 - i), 0) ∧ lsM = [some (zvr (k)), some (zvi (y)), some (zvi (l)), some (zvi (i)), none, none] ∧ stM = [] ∧ L1 = L ∧ R1 = R ∧ S1 = S ∧ (i ≤ dnt d ∧ 0 ≤ y) ∧ (l = y - zct (jRk d) (1000 * zct (jFst d) 960) - zct (jBare d) (dnl d) ∧ 0 ≤ l) ∧ (∀ c j : Nat, ¬ (c = k ∧ j = 0) → I1 c j = I c j)
      | _ => False, rfl, ?_, ⟨?_, ?_, ?_, ?_, True.intro⟩⟩
  · refine And.intro (zDX hd 0 rfl) ⟨_, (zWi (zRb rfl)), ?_⟩
    refine And.intro (by omega) ⟨fun h6 => ?_, fun h6 => ?_⟩
    · refine ⟨(4, (961 - (0 : Nat)), 1001), [some (zvr (k)), some (zvi (y)), some (zvi (y)), some (zvi ((0 : Nat))), none, none], ⟨rfl, rfl, rfl, rfl, rfl⟩, 0, y, rfl, rfl, rfl, rfl, rfl, rfl, ⟨Nat.zero_le _, by omega⟩, ⟨(by show y = y - ((0 : Nat) : Int); omega), by omega⟩, (fun c j h0 => (zxcj h0 rfl))⟩
    · refine hQ _ _ (by unfold jRm; rw [if_pos (by omega)]) (fun c j h0 => (zxcj h0 rfl))
  · rintro nM lsM stM I1 L1 R1 S1 hz1 ⟨n, l, rfl, rfl, rfl, rfl, rfl, rfl, hn, hl, fr⟩
    refine And.intro (zDX hd 0 rfl) (zrd (v := (zct (jFst d) 960)) ((fr k 29 (by omega)).trans hcnt) ?_)
    refine And.intro ⟨(by omega), (by omega)⟩ ⟨fun h20 => ?_, fun h20 => ?_⟩
    · refine ⟨(3, (61 - (0 : Nat)), 0), zlt6 (by omega), [some (zvr (k)), some (zvi (y)), some (zvi (l)), some (zvi ((0 : Nat))), none, none], ⟨rfl, rfl, rfl, rfl, rfl⟩, 0, l, rfl, rfl, rfl, rfl, rfl, rfl, (by omega), (by obtain e : n = zct (jFst d) 960 := (by omega); subst e; exact ⟨(by show l = y - _ - ((0 : Nat) : Int); omega), hl.2⟩), (fun c j h0 => ((fr c j (by omega)).trans rfl))⟩
    · refine And.intro (zDX hd 0 rfl) ⟨_, sn_J_nameOf.up (by decide), ?_⟩
      refine ⟨k, d, (n : Int), n, rfl, hd, (zNJ_fr hNJ (fun c j h => fr c j (by omega)) (fun c j h => rfl)), (by first | exact hJG | (clear hQ; grind [xu])), (zJN_fr hJN (fun c j h => fr c j (by omega))), ⟨rfl, by omega⟩, ?_⟩
      intro v25o p25hv p25bhv2
      refine ⟨(4, (961 - n), (1000 - (0 : Nat))), zlt6 (by omega), [some (zvr (k)), some (zvi (y)), some (zvi (l)), some (zvi (n)), some (zvi (v25o)), some (zvi ((0 : Nat)))], ⟨rfl, rfl, rfl, rfl, rfl, rfl, rfl⟩, n, 0, l, v25o, rfl, rfl, rfl, rfl, rfl, rfl, (by omega), ⟨p25hv, p25bhv2⟩, hl, (fun c j h0 => ((fr c j (by omega)).trans rfl))⟩
  · rintro nM lsM stM I1 L1 R1 S1 hz1 ⟨n, m, l, w, rfl, rfl, rfl, rfl, rfl, rfl, hn, hw, hl, fr⟩
    refine And.intro ⟨(by omega), (zRb rfl)⟩ ⟨fun h38 => ?_, fun h38 => ?_⟩
    · refine ⟨(4, (961 - (n + 1)), 1001), zlt6 (by omega), [some (zvr (k)), some (zvi (y)), some (zvi (l)), some (zvi ((n + 1))), none, none], ⟨rfl, rfl, rfl, rfl, rfl⟩, (n + 1), l, rfl, rfl, rfl, rfl, rfl, rfl, (by omega), ?_, (fun c j h0 => ((fr c j (by omega)).trans rfl))⟩
      · have e : zct (jRk d) (1000 * (n + 1)) = zct (jRk d) (1000 * n + m) := by
          refine zct_k (by omega) (fun q q1 q2 q3 => ?_)
          first
          | omega
          | (have q4 := q3.2
             rw [show q / 1000 = n by omega] at q4
             have w1 := hw.1
             unfold jNm at w1
             rcases zlow_sp (jHas d n) 1000 with u | u
             · exact u.2 _ (by omega) q4
             · obtain ⟨r, r1, r2, -⟩ := u
               rw [r2, if_neg (by omega)] at w1
               omega)
        rw [e]
        exact hl
    · refine And.intro (by omega) ⟨fun h43 => ?_, fun h43 => ?_⟩
      · refine ⟨(4, (961 - (n + 1)), 1001), zlt6 (by omega), [some (zvr (k)), some (zvi (y)), some (zvi (l)), some (zvi ((n + 1))), none, none], ⟨rfl, rfl, rfl, rfl, rfl⟩, (n + 1), l, rfl, rfl, rfl, rfl, rfl, rfl, (by omega), ?_, (fun c j h0 => ((fr c j (by omega)).trans rfl))⟩
        · have e : zct (jRk d) (1000 * (n + 1)) = zct (jRk d) (1000 * n + m) := by
            refine zct_k (by omega) (fun q q1 q2 q3 => ?_)
            first
            | omega
            | (have q4 := q3.2
               rw [show q / 1000 = n by omega] at q4
               have w1 := hw.1
               unfold jNm at w1
               rcases zlow_sp (jHas d n) 1000 with u | u
               · exact u.2 _ (by omega) q4
               · obtain ⟨r, r1, r2, -⟩ := u
                 rw [r2, if_neg (by omega)] at w1
                 omega)
          rw [e]
          exact hl
      · refine And.intro ⟨(by omega), (by omega)⟩ ⟨fun h50 => ?_, fun h50 => ?_⟩
        · refine ⟨(4, (961 - n), (1000 - (m + 1))), zlt6 (by omega), [some (zvr (k)), some (zvi (y)), some (zvi (l)), some (zvi (n)), some (zvi (w)), some (zvi ((m + 1)))], ⟨rfl, rfl, rfl, rfl, rfl, rfl, rfl⟩, n, (m + 1), l, w, rfl, rfl, rfl, rfl, rfl, rfl, (by omega), hw, ?_, (fun c j h0 => ((fr c j (by omega)).trans rfl))⟩
          · have d1 : (1000 * n + m) / 1000 = n := by omega
            have d2 : (1000 * n + m) % 1000 = m := by omega
            rw [show 1000 * n + (m + 1) = 1000 * n + m + 1 by omega]
            first
            | (have hR9 : jRk d (1000 * n + m) := by
                 unfold jRk
                 rw [d1, d2]
                 exact ⟨by omega, (p57hv.resolve_right (fun w => by have := w.1; omega)).2⟩
               rw [zct_t hR9]
               omega)
            | (have hR9 : ¬ jRk d (1000 * n + m) := by
                 unfold jRk
                 rw [d1, d2]
                 intro q
                 first
                 | exact (p57hv.resolve_left (fun w => by have := w.1; omega)).2 q.2
                 | (have := q.1; omega)
               rw [zct_f hR9]
               exact hl)
        · refine And.intro (zDX hd 0 rfl) ⟨_, sn_J_has.up (by decide), ?_⟩
          refine ⟨k, d, (n : Int), n, (m : Int), m, rfl, hd, (zNJ_fr hNJ (fun c j h => fr c j (by omega)) (fun c j h => rfl)), (by first | exact hJG | (clear hQ; grind [xu])), (zJN_fr hJN (fun c j h => fr c j (by omega))), ⟨rfl, by omega⟩, (by omega), ?_⟩
          intro v57o p57hv
          refine And.intro (by omega) ⟨fun h60 => ?_, fun h60 => ?_⟩
          · refine And.intro (by omega) ⟨fun h67 => ?_, fun h67 => ?_⟩
            · refine ⟨(4, (961 - n), (1000 - (m + 1))), zlt6 (by omega), [some (zvr (k)), some (zvi (y)), some (zvi ((l + (-1)))), some (zvi (n)), some (zvi (w)), some (zvi ((m + 1)))], ⟨rfl, rfl, rfl, rfl, rfl, rfl, rfl⟩, n, (m + 1), (l + (-1)), w, rfl, rfl, rfl, rfl, rfl, rfl, (by omega), hw, ?_, (fun c j h0 => ((fr c j (by omega)).trans rfl))⟩
              · have d1 : (1000 * n + m) / 1000 = n := by omega
                have d2 : (1000 * n + m) % 1000 = m := by omega
                rw [show 1000 * n + (m + 1) = 1000 * n + m + 1 by omega]
                first
                | (have hR9 : jRk d (1000 * n + m) := by
                     unfold jRk
                     rw [d1, d2]
                     exact ⟨by omega, (p57hv.resolve_right (fun w => by have := w.1; omega)).2⟩
                   rw [zct_t hR9]
                   omega)
                | (have hR9 : ¬ jRk d (1000 * n + m) := by
                     unfold jRk
                     rw [d1, d2]
                     intro q
                     first
                     | exact (p57hv.resolve_left (fun w => by have := w.1; omega)).2 q.2
                     | (have := q.1; omega)
                   rw [zct_f hR9]
                   exact hl)
            · refine hQ _ _ ?_ (fun c j h0 => ((fr c j (by omega)).trans rfl))
              · have d1 : (1000 * n + m) / 1000 = n := by omega
                have d2 : (1000 * n + m) % 1000 = m := by omega
                have hR9 : jRk d (1000 * n + m) := by
                  unfold jRk
                  rw [d1, d2]
                  exact ⟨by omega, (p57hv.resolve_right (fun w => by have := w.1; omega)).2⟩
                have e1 := zct_t hR9
                have e2 : zct (jRk d) (1000 * n + m + 1) ≤ zct (jRk d) (1000 * zct (jFst d) 960) := zct_le2 (by omega)
                unfold jRm
                rw [if_neg (by omega), if_pos (by omega), zkth_at (q := 1000 * n + m) (by omega) hR9 (by omega)]
                omega
          · refine ⟨(4, (961 - n), (1000 - (m + 1))), zlt6 (by omega), [some (zvr (k)), some (zvi (y)), some (zvi (l)), some (zvi (n)), some (zvi (w)), some (zvi ((m + 1)))], ⟨rfl, rfl, rfl, rfl, rfl, rfl, rfl⟩, n, (m + 1), l, w, rfl, rfl, rfl, rfl, rfl, rfl, (by omega), hw, ?_, (fun c j h0 => ((fr c j (by omega)).trans rfl))⟩
            · have d1 : (1000 * n + m) / 1000 = n := by omega
              have d2 : (1000 * n + m) % 1000 = m := by omega
              rw [show 1000 * n + (m + 1) = 1000 * n + m + 1 by omega]
              first
              | (have hR9 : jRk d (1000 * n + m) := by
                   unfold jRk
                   rw [d1, d2]
                   exact ⟨by omega, (p57hv.resolve_right (fun w => by have := w.1; omega)).2⟩
                 rw [zct_t hR9]
                 omega)
              | (have hR9 : ¬ jRk d (1000 * n + m) := by
                   unfold jRk
                   rw [d1, d2]
                   intro q
                   first
                   | exact (p57hv.resolve_left (fun w => by have := w.1; omega)).2 q.2
                   | (have := q.1; omega)
                 rw [zct_f hR9]
                 exact hl)
  · rintro nM lsM stM I1 L1 R1 S1 hz1 ⟨i, l, rfl, rfl, rfl, rfl, rfl, rfl, hi, hl, fr⟩
    refine And.intro (zDX hd 0 rfl) (zrd (v := (dnl d)) ((fr k 11 (by omega)).trans n4) ?_)
    refine And.intro ⟨(by omega), (by omega)⟩ ⟨fun h101 => ?_, fun h101 => ?_⟩
    · refine ⟨(2, (61 - (0 : Nat)), 0), zlt6 (by omega), [some (zvr (k)), some (zvi (y)), some (zvi (l)), some (zvi ((0 : Nat))), none, none], ⟨rfl, rfl, rfl, rfl, rfl⟩, 0, l, rfl, rfl, rfl, rfl, rfl, rfl, (by omega), (by obtain rfl : i = dnl d := (by omega); exact hl), (fun c j h0 => ((fr c j (by omega)).trans rfl))⟩
    · refine And.intro (zDX hd 0 rfl) ⟨_, sn_J_bare.up (by decide), ?_⟩
      refine ⟨k, d, (i : Int), i, rfl, hd, (zNJ_fr hNJ (fun c j h => fr c j (by omega)) (fun c j h => rfl)), (by first | exact hJG | (clear hQ; grind [xu])), ⟨rfl, by omega⟩, ?_⟩
      intro v106o p106hv
      refine And.intro (by omega) ⟨fun h109 => ?_, fun h109 => ?_⟩
      · refine And.intro (by omega) ⟨fun h116 => ?_, fun h116 => ?_⟩
        · refine ⟨(3, (61 - (i + 1)), 0), zlt6 (by omega), [some (zvr (k)), some (zvi (y)), some (zvi ((l + (-1)))), some (zvi ((i + 1))), none, none], ⟨rfl, rfl, rfl, rfl, rfl⟩, (i + 1), (l + (-1)), rfl, rfl, rfl, rfl, rfl, rfl, (by omega), ?_, (fun c j h0 => ((fr c j (by omega)).trans rfl))⟩
          · first
            | (have hB := (p106hv.resolve_right (fun w => by have := w.1; omega)).2
               rw [zct_t hB]
               omega)
            | (have hB := (p106hv.resolve_left (fun w => by have := w.1; omega)).2
               rw [zct_f hB]
               exact hl)
        · refine hQ _ _ ?_ (fun c j h0 => ((fr c j (by omega)).trans rfl))
          · have hB := (p106hv.resolve_right (fun w => by have := w.1; omega)).2
            unfold jRm
            rw [if_neg (by omega), if_neg (by omega), zkth_at (q := i) (by omega) hB (by omega), if_neg (by omega)]
      · refine ⟨(3, (61 - (i + 1)), 0), zlt6 (by omega), [some (zvr (k)), some (zvi (y)), some (zvi (l)), some (zvi ((i + 1))), none, none], ⟨rfl, rfl, rfl, rfl, rfl⟩, (i + 1), l, rfl, rfl, rfl, rfl, rfl, rfl, (by omega), ?_, (fun c j h0 => ((fr c j (by omega)).trans rfl))⟩
        · first
          | (have hB := (p106hv.resolve_right (fun w => by have := w.1; omega)).2
             rw [zct_t hB]
             omega)
          | (have hB := (p106hv.resolve_left (fun w => by have := w.1; omega)).2
             rw [zct_f hB]
             exact hl)
  · rintro nM lsM stM I1 L1 R1 S1 hz1 ⟨i, l, rfl, rfl, rfl, rfl, rfl, rfl, hi, hl, fr⟩
    refine And.intro (zDX hd 0 rfl) (zrd (v := (dnt d)) ((fr k 15 (by omega)).trans n5) ?_)
    refine And.intro ⟨(by omega), (by omega)⟩ ⟨fun h140 => ?_, fun h140 => ?_⟩
    · refine hQ _ _ ?_ (fun c j h0 => ((fr c j (by omega)).trans rfl))
      · unfold jRm
        rw [if_neg (by omega), if_neg (by omega), zkth_no (by omega), if_pos rfl]
    · refine And.intro (zDX hd 0 rfl) (zrdR (v := some (k + 14)) (zDR hd 13 rfl) ?_)
      refine And.intro (Or.inr (zDP hd 14 rfl rfl (by omega) (by omega))) (fun v148 e148 r148 => ?_)
      have f148 : v148 = 0 := (e148.trans ((congrArg (I1 (k + 14)) (by omega)).trans ((fr (k + 14) i (by omega)).trans (nO i (by omega)))))
      refine And.intro r148 ⟨fun h149 => ?_, (fun h149 => False.elim (by omega))⟩
      refine ⟨(2, (61 - (i + 1)), 0), zlt6 (by omega), [some (zvr (k)), some (zvi (y)), some (zvi (l)), some (zvi ((i + 1))), none, none], ⟨rfl, rfl, rfl, rfl, rfl⟩, (i + 1), l, rfl, rfl, rfl, rfl, rfl, rfl, (by omega), hl, (fun c j h0 => ((fr c j (by omega)).trans rfl))⟩)
