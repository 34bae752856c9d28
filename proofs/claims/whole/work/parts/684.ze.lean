/-! ze -/
def T_A_gat : ZT := fun args I L R S Q => ∃ (n : Nat) (b : Nat) (s : BdS), args = [zvr 145, zvr 82, zvi n] ∧ (zSh S) ∧ (zRs R) ∧ (zBA b s I L) ∧ (bGd s) ∧ (n < bnn s) ∧ ∀ (v : Nat) (I' : ZI), (v = gaN s n (bnp s)) → (zGa s n (bnp s) 153 I') → (∀ c j : Nat, ¬ c = 153 → I' c j = I c j) → Q (some (zvi (v))) I' L R S
theorem sn_A_gat : ZSnd 3 10 8 T_A_gat := ZSnd.loops (zT10_8 2) (by
  rintro args I L R S Q hz ⟨n, b, s, rfl, hS, hR, hBA, hGd, hn, hQ⟩
  obtain ⟨⟨hb0, hbw, hbh, hbd, hbs⟩, hnb, hcl, hPT, hNT, hwy, hco, hnd⟩ := id hBA
  obtain ⟨hP1, hP2, hP3, hP4⟩ := id hPT
  obtain ⟨hN1, hN2, hN3, hN4⟩ := id hNT
  obtain ⟨⟨⟨gW1, gW2⟩, ⟨gH1, gH2⟩, ⟨gD1, gD2⟩, gB9⟩, ⟨gnp, gnn⟩, gc, gp, gn, gco, gnd, gun⟩ := id hGd
  refine ⟨[5], fun nM tM lsM stM I1 L1 R1 S1 => match tM with
      | 5 => ∃ (p : Nat), nM = ((41 - p), 0, 0) ∧ lsM = [some (zvr (145)), some (zvr (82)), some (zvi (n)), some (zvi (gaN s n p)), some (zvi (p)), none] ∧ stM = [] ∧ L1 = L ∧ R1 = R ∧ S1 = S ∧ (p ≤ bnp s) ∧ (zGa s n p 153 I1) ∧ (∀ c j : Nat, ¬ c = 153 → I1 c j = I c j)
      | _ => False, rfl, ?_, ⟨?_, True.intro⟩⟩
  · refine ⟨((41 - (0 : Nat)), 0, 0), [some (zvr (145)), some (zvr (82)), some (zvi (n)), some (zvi (gaN s n (0 : Nat))), some (zvi ((0 : Nat))), none], ⟨rfl, rfl, rfl, (congrArg (fun z => some (zvi z)) rfl), rfl, rfl⟩, 0, rfl, rfl, rfl, rfl, rfl, rfl, (by omega), zGa_0, (fun c j h0 => rfl)⟩
  · rintro nM lsM stM I1 L1 R1 S1 hz1 ⟨p, rfl, rfl, rfl, rfl, rfl, rfl, hp, hGa, fr⟩
    have hBA1 : zBA b s I1 L1 := (zBA_fr hBA (fun c j h => fr c j (by omega)) (fun c j h => rfl))
    have hPT1 : zRT 88 40 (bnp s) (bP s) I1 := hBA1.2.2.2.1
    have hbw1 : I1 82 1 = bW s := hBA1.1.2.1
    have hbh1 : I1 82 2 = bH s := hBA1.1.2.2.1
    have hbd1 : I1 82 3 = bD s := hBA1.1.2.2.2.1
    have hP21 : I1 88 2 = bnp s := hPT1.2.1
    have h20 := gaN_le hGd hn hp
    refine And.intro (zA_82 hS) (zrdR (v := some 88) (zR_82_10 hR) ?_)
    refine And.intro (zA_88 hS) (zrd (v := (bnp s)) hP21 ?_)
    refine And.intro ⟨(by omega), (by omega)⟩ ⟨fun h14 => ?_, fun h14 => ?_⟩
    · refine hQ (gaN s n p) _ (by have e9 : p = bnp s := (by omega); subst e9; rfl) (by have e9 : p = bnp s := (by omega); subst e9; exact hGa) (fun c j h0 => ((fr c j h0).trans rfl))
    · refine And.intro (zA_82 hS) (Exists.intro _ (And.intro (zinl_ok (zT0_19 1)) (And.intro rfl ?_)))
      refine And.intro (zA_82 hS) (zrdR (v := some 88) (zR_82_10 hR) ?_)
      refine And.intro (zA_88 hS) ⟨_, sn_A_at.up (by decide), ?_⟩
      refine ⟨88, 40, (bnp s), (bP s), p, 3, (p : Int), (3 : Int), rfl, hS, hR, (zRw_88 hR hS), hPT1, (by omega), (by omega), ?_⟩
      intro v6_20o p6_20hv p6_20bhr
      refine And.intro ⟨(by omega), (by omega)⟩ ⟨fun h24 => ?_, fun h24 => ?_⟩
      · have t24 : ¬ bP s p 3 = n := (by have z9 : bP s p (3 : Int).toNat = bP s p 3 := rfl; omega)
        refine ⟨((41 - (p + 1)), 0, 0), zlt6 (by omega), [some (zvr (145)), some (zvr (82)), some (zvi (n)), some (zvi (gaN s n (p + 1))), some (zvi ((p + 1))), none], ⟨rfl, rfl, rfl, (congrArg (fun z => some (zvi z)) (by
  first
  | exact congrArg _ (gaN_n t24).symm
  | (have z9 := gaN_y t24; omega))), rfl, rfl⟩, (p + 1), rfl, rfl, rfl, rfl, rfl, rfl, (by omega), ?_, (fun c j h0 => ((fr c j h0).trans rfl))⟩
        · first
          | exact zGa_n hGa t24
          | (refine zGa_y hGa t24 (fun i hi => ?_) ?_ ?_ ?_ ?_
             · repeat (first | exact rfl | refine zxcj (by omega) ?_ | refine zxs (by omega) ?_)
             · repeat (first | exact (zxe' (by omega)).trans p55hv | refine zxs (by omega) ?_)
             · repeat (first | exact (zxe' (by omega)).trans p73hv | refine zxs (by omega) ?_)
             · rw [p6_38hv] at p87hv
               repeat (first | exact (zxe' (by omega)).trans p87hv | refine zxs (by omega) ?_)
             · refine (zxe' (by omega)).trans ?_
               unfold cuPp
               rw [p103hv, p110hv, p6_38hv])
      · have t24 : bP s p 3 = n := (by have z9 : bP s p (3 : Int).toNat = bP s p 3 := rfl; omega)
        have t24b : gaN s n p + 4 ≤ 20 := (gaN_lt hGd hn (by omega) t24)
        refine And.intro ⟨(by omega), (zRb rfl)⟩ ⟨(fun h32 => False.elim (by omega)), fun h32 => ?_⟩
        refine And.intro (zA_82 hS) (Exists.intro _ (And.intro (zinl_ok (zT0_18 1)) (And.intro rfl ?_)))
        refine And.intro (zA_82 hS) (zrdR (v := some 88) (zR_82_10 hR) ?_)
        refine And.intro (zA_88 hS) ⟨_, sn_A_at.up (by decide), ?_⟩
        refine ⟨88, 40, (bnp s), (bP s), p, 2, (p : Int), (2 : Int), rfl, hS, hR, (zRw_88 hR hS), hPT1, (by omega), (by omega), ?_⟩
        intro v6_38o p6_38hv p6_38bhr
        have g6_38 : v6_38o = bP s p 2 := p6_38hv
        have g6_38b : 0 ≤ v6_38o ∧ v6_38o < ((bW s * bH s * bD s : Nat) : Int) ∧ v6_38o ≤ 1023 := (by have z9 := (gp p (by omega)).2.2.1; omega)
        have g6_38bb : ((v6_38o).toNat : Int) = v6_38o ∧ (v6_38o).toNat < bW s * bH s * bD s := (by omega)
        refine And.intro (zA_145 hS) (zrdR (v := some 153) (zR_145_12 hR) ?_)
        refine And.intro (zA_82 hS) (zrdR (v := some 88) (zR_82_10 hR) ?_)
        refine And.intro (zA_88 hS) ⟨_, sn_A_at.up (by decide), ?_⟩
        refine ⟨88, 40, (bnp s), (bP s), p, 0, (p : Int), (0 : Int), rfl, hS, hR, (zRw_88 hR hS), hPT1, (by omega), (by omega), ?_⟩
        intro v55o p55hv p55bhr
        refine And.intro ⟨(zx0 rfl), (zP_153 hS (by omega) (by omega))⟩ ⟨_, (zWi (by omega)), ?_⟩
        refine And.intro (zA_145 hS) (zrdR (v := some 153) (zR_145_12 hR) ?_)
        refine And.intro (zA_82 hS) (zrdR (v := some 88) (zR_82_10 hR) ?_)
        refine And.intro (zA_88 hS) ⟨_, sn_A_at.up (by decide), ?_⟩
        refine ⟨88, 40, (bnp s), (bP s), p, 1, (p : Int), (1 : Int), rfl, hS, hR, (zRw_88 hR hS), (zRT_fr hPT1 (fun c j h => by repeat (first | exact rfl | refine zxcj (by omega) ?_))), (by omega), (by omega), ?_⟩
        intro v73o p73hv p73bhr
        refine And.intro ⟨(zx0 rfl), (zP_153 hS (by omega) (by omega))⟩ ⟨_, (zWi (by omega)), ?_⟩
        refine And.intro (zA_145 hS) (zrdR (v := some 153) (zR_145_12 hR) ?_)
        refine And.intro (zA_82 hS) ⟨_, sn_A_lay.up (by decide), ?_⟩
        refine ⟨(bW s), (bH s), (bD s), (v6_38o : Int), (v6_38o).toNat, rfl, hS, hR, hbw1, hbh1, hbd1, (by omega), (by omega), (by omega), (by omega), ?_⟩
        intro v87o p87hv p87bhv2
        refine And.intro ⟨(zx0 rfl), (zP_153 hS (by omega) (by omega))⟩ ⟨_, (zWi (by omega)), ?_⟩
        refine And.intro (zA_145 hS) (zrdR (v := some 153) (zR_145_12 hR) ?_)
        refine And.intro (zA_82 hS) ⟨_, sn_A_row.up (by decide), ?_⟩
        refine ⟨(bW s), (bH s), (bD s), (v6_38o : Int), (v6_38o).toNat, rfl, hS, hR, hbw1, hbh1, hbd1, (by omega), (by omega), (by omega), (by omega), ?_⟩
        intro v103o p103hv p103bhv2
        refine And.intro (zA_82 hS) ⟨_, sn_A_col.up (by decide), ?_⟩
        refine ⟨(bW s), (bH s), (bD s), (v6_38o : Int), (v6_38o).toNat, rfl, hS, hR, hbw1, hbh1, hbd1, (by omega), (by omega), (by omega), (by omega), ?_⟩
        intro v110o p110hv p110bhv2
        refine And.intro ⟨(zx0 rfl), (zP_153 hS (by omega) (by omega))⟩ ⟨_, (zWi (by omega)), ?_⟩
        refine ⟨((41 - (p + 1)), 0, 0), zlt6 (by omega), [some (zvr (145)), some (zvr (82)), some (zvi (n)), some (zvi (gaN s n (p + 1))), some (zvi ((p + 1))), none], ⟨rfl, rfl, rfl, (congrArg (fun z => some (zvi z)) (by
  first
  | exact congrArg _ (gaN_n t24).symm
  | (have z9 := gaN_y t24; omega))), rfl, rfl⟩, (p + 1), rfl, rfl, rfl, rfl, rfl, rfl, (by omega), ?_, (fun c j h0 => (zxu h0 (zxu h0 (zxu h0 (zxu h0 ((fr c j h0).trans rfl))))))⟩
        · first
          | exact zGa_n hGa t24
          | (refine zGa_y hGa t24 (fun i hi => ?_) ?_ ?_ ?_ ?_
             · repeat (first | exact rfl | refine zxcj (by omega) ?_ | refine zxs (by omega) ?_)
             · repeat (first | exact (zxe' (by omega)).trans p55hv | refine zxs (by omega) ?_)
             · repeat (first | exact (zxe' (by omega)).trans p73hv | refine zxs (by omega) ?_)
             · rw [p6_38hv] at p87hv
               repeat (first | exact (zxe' (by omega)).trans p87hv | refine zxs (by omega) ?_)
             · refine (zxe' (by omega)).trans ?_
               unfold cuPp
               rw [p103hv, p110hv, p6_38hv]))
