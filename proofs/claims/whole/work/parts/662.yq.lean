/-! yq -/
def T_Y_go0 : ZT := fun args I L R S Q => ∃ (g : Nat) (s : BdS), args = [zvr 165, zvi 0] ∧ (zSh S) ∧ (zRs R) ∧ (R 165 12 = some g) ∧ (zDy zT17 zF17 g R S) ∧ (zBB g (-1) s I L) ∧ (bGd s) ∧ (302 ≤ g) ∧ (zPB s I) ∧ ∀ (I' : ZI), (I' 165 42 = (cuS s).length) → (I' 165 41 = 0) → (∀ c j : Nat, ¬ (c = 165 ∧ j = 41) → ¬ (c = 165 ∧ j = 42) → I' c j = I c j) → Q none I' L R S
theorem sn_Y_go0 : ZSnd 6 21 24 T_Y_go0 := ZSnd.loops (zT21_24 5) (by
  rintro args I L R S Q hz ⟨g, s, rfl, hS, hR, hg, hdg, hBB, hGd, hg3, hPB, hQ⟩
  obtain ⟨⟨⟨gW1, gW2⟩, ⟨gH1, gH2⟩, ⟨gD1, gD2⟩, gB9⟩, ⟨gnp, gnn⟩, gc, gp, gn, gco, gnd, gun⟩ := id hGd
  have hbd := hBB.1.2.2.1
  have hn150 := hPB.1
  have hn220 := hPB.2.1
  refine ⟨[12, 139, 164, 190, 216], fun nM tM lsM stM I1 L1 R1 S1 => match tM with
      | 12 => ∃ (p : Nat), nM = (99, (41 - p), 0) ∧ lsM = [some (zvr (165)), some (zvi (0)), some (zvi (p)), none, none] ∧ stM = [] ∧ L1 = L ∧ R1 = R ∧ S1 = S ∧ (p ≤ bnp s) ∧ (I1 165 41 = 0) ∧ (I1 165 42 = p) ∧ (∀ c j : Nat, ¬ (c = 165 ∧ j = 41) → ¬ (c = 165 ∧ j = 42) → I1 c j = I c j)
      | 139 => ∃ (n : Nat), nM = ((20 - n), 99, 0) ∧ lsM = [some (zvr (165)), some (zvi (0)), some (zvi (n)), none, none] ∧ stM = [] ∧ L1 = L ∧ R1 = R ∧ S1 = S ∧ (n ≤ bnn s) ∧ (I1 165 41 = 0) ∧ (I1 165 42 = (cuC (fun p => [cuPd s p]) (bnp s) ++ cuC (cuNt s) n).length) ∧ (∀ c j : Nat, ¬ (c = 165 ∧ j = 41) → ¬ (c = 165 ∧ j = 42) → I1 c j = I c j)
      | 164 => ∃ (n : Nat) (l : Nat), nM = ((20 - n), 50, (10 - l)) ∧ lsM = [some (zvr (165)), some (zvi (0)), some (zvi (n)), some (zvi (l)), none] ∧ stM = [] ∧ L1 = L ∧ R1 = R ∧ S1 = S ∧ (l ≤ bD s) ∧ (n < bnn s) ∧ (bN s n 2 = 1) ∧ (I1 165 41 = 0) ∧ (I1 165 42 = ((cuC (fun p => [cuPd s p]) (bnp s) ++ cuC (cuNt s) n) ++ cuC (fun l => cuC (fun r => cuLn s n l r 1) (bH s)) l).length) ∧ (∀ c j : Nat, ¬ (c = 165 ∧ j = 41) → ¬ (c = 165 ∧ j = 42) → I1 c j = I c j)
      | 190 => ∃ (n : Nat) (l : Nat), nM = ((20 - n), 40, (10 - l)) ∧ lsM = [some (zvr (165)), some (zvi (0)), some (zvi (n)), some (zvi (l)), none] ∧ stM = [] ∧ L1 = L ∧ R1 = R ∧ S1 = S ∧ (l ≤ bD s) ∧ (n < bnn s) ∧ (bN s n 2 = 1) ∧ (I1 165 41 = 0) ∧ (I1 165 42 = (((cuC (fun p => [cuPd s p]) (bnp s) ++ cuC (cuNt s) n) ++ cuRs s n 1) ++ cuC (fun l => cuC (fun r => cuLn s n l r 0) (bW s)) l).length) ∧ (∀ c j : Nat, ¬ (c = 165 ∧ j = 41) → ¬ (c = 165 ∧ j = 42) → I1 c j = I c j)
      | 216 => ∃ (n : Nat) (l : Nat), nM = ((20 - n), 30, (10 - l)) ∧ lsM = [some (zvr (165)), some (zvi (0)), some (zvi (n)), some (zvi (l)), none] ∧ stM = [] ∧ L1 = L ∧ R1 = R ∧ S1 = S ∧ (l + 1 ≤ bD s) ∧ (n < bnn s) ∧ (bN s n 2 = 1) ∧ (I1 165 41 = 0) ∧ (I1 165 42 = ((((cuC (fun p => [cuPd s p]) (bnp s) ++ cuC (cuNt s) n) ++ cuRs s n 1) ++ cuRs s n 0) ++ cuC (fun l => cuH1 s n l (bH s)) l).length) ∧ (∀ c j : Nat, ¬ (c = 165 ∧ j = 41) → ¬ (c = 165 ∧ j = 42) → I1 c j = I c j)
      | _ => False, rfl, ?_, ⟨?_, ?_, ?_, ?_, ?_, True.intro⟩⟩
  · refine And.intro ⟨(zA_165 hS), (Or.inl rfl)⟩ ?_
    refine And.intro (zA_165 hS) ⟨_, (zWi (zRb rfl)), ?_⟩
    refine ⟨(99, (41 - (0 : Nat)), 0), [some (zvr (165)), some (zvi (0)), some (zvi ((0 : Nat))), none, none], ⟨rfl, rfl, rfl, rfl⟩, 0, rfl, rfl, rfl, rfl, rfl, rfl, (by omega), (zxs (by decide) zxe), zxe, (fun c j h0 h1 => (zxcj h1 (zxcj h0 rfl)))⟩
  · rintro nM lsM stM I1 L1 R1 S1 hz1 ⟨p, rfl, rfl, rfl, rfl, rfl, rfl, hp, hk1, hM, fr⟩
    have hb1 : zBB g (-1) s I1 L1 := (zBB_fr hBB (fun c j h => fr c j (by omega) (by omega)) (fun c j h => rfl))
    have hbd1 : I1 g 3 = bD s := hb1.1.2.2.1
    have hn15 : I1 165 15 = bnp s := (fr 165 15 (by omega) (by omega)).trans hPB.1
    have hn22 : I1 165 22 = bnn s := (fr 165 22 (by omega) (by omega)).trans hPB.2.1
    refine And.intro (zA_165 hS) (zrd (v := (bnp s)) ((fr 165 15 (by omega) (by omega)).trans hn150) ?_)
    refine And.intro ⟨(by omega), (by omega)⟩ ⟨fun h17 => ?_, fun h17 => ?_⟩
    · refine ⟨((20 - (0 : Nat)), 99, 0), zlt6 (by omega), [some (zvr (165)), some (zvi (0)), some (zvi ((0 : Nat))), none, none], ⟨rfl, rfl, rfl, rfl⟩, 0, rfl, rfl, rfl, rfl, rfl, rfl, (by omega), hk1, (hM.trans (by have e9 : p = bnp s := (by omega); subst e9; rw [show cuC (cuNt s) 0 = [] from rfl, List.append_nil, cuC_1])), (fun c j h0 h1 => ((fr c j h0 h1).trans rfl))⟩
    · refine And.intro (zA_165 hS) (zrdR (v := some 202) (zR_165_21 hR) ?_)
      refine And.intro (zP_202 hS (by omega) (by omega)) (fun v26 e26 r26 => ?_)
      refine And.intro (zA_165 hS) (zrdR (v := some 199) (zR_165_18 hR) ?_)
      refine And.intro (zP_199 hS (by omega) (by omega)) (fun v32 e32 r32 => ?_)
      refine And.intro (zA_165 hS) (zrdR (v := some 200) (zR_165_19 hR) ?_)
      refine And.intro (zP_200 hS (by omega) (by omega)) (fun v40 e40 r40 => ?_)
      refine And.intro (zA_165 hS) (zrdR (v := some 201) (zR_165_20 hR) ?_)
      refine And.intro (zP_201 hS (by omega) (by omega)) (fun v46 e46 r46 => ?_)
      refine And.intro (zA_165 hS) (zrdR (v := some 200) (zR_165_19 hR) ?_)
      refine And.intro (zP_200 hS (by omega) (by omega)) (fun v52 e52 r52 => ?_)
      refine And.intro (zA_165 hS) (zrdR (v := some 201) (zR_165_20 hR) ?_)
      refine And.intro (zP_201 hS (by omega) (by omega)) (fun v58 e58 r58 => ?_)
      refine And.intro (zA_165 hS) ⟨_, sn_Y_sh0.up (by decide), ?_⟩
      refine ⟨(v26 : Int), (v32 : Int), (1 : Int), (1 : Int), (v40 : Int), (v46 : Int), (v52 : Int), (v58 : Int), (300 : Int), p, rfl, hS, hR, hk1, hM, (by omega), ?_⟩
      intro I62o p62h42 p62bfr
      refine And.intro (zA_165 hS) (zrd (v := 0) ((p62bfr 165 41 (by omega)).trans hk1) ?_)
      refine And.intro (zRb rfl) (zbf rfl ?_)
      refine ⟨(99, (41 - (p + 1)), 0), zlt6 (by omega), [some (zvr (165)), some (zvi (0)), some (zvi ((p + 1))), none, none], ⟨rfl, rfl, rfl, rfl⟩, (p + 1), rfl, rfl, rfl, rfl, rfl, rfl, (by omega), ((p62bfr 165 41 (by omega)).trans hk1), p62h42, (fun c j h0 h1 => ((p62bfr c j h1).trans ((fr c j h0 h1).trans rfl)))⟩
  · rintro nM lsM stM I1 L1 R1 S1 hz1 ⟨n, rfl, rfl, rfl, rfl, rfl, rfl, hn, hk1, hM, fr⟩
    have hb1 : zBB g (-1) s I1 L1 := (zBB_fr hBB (fun c j h => fr c j (by omega) (by omega)) (fun c j h => rfl))
    have hbd1 : I1 g 3 = bD s := hb1.1.2.2.1
    have hn15 : I1 165 15 = bnp s := (fr 165 15 (by omega) (by omega)).trans hPB.1
    have hn22 : I1 165 22 = bnn s := (fr 165 22 (by omega) (by omega)).trans hPB.2.1
    refine And.intro (zA_165 hS) (zrd (v := (bnn s)) ((fr 165 22 (by omega) (by omega)).trans hn220) ?_)
    refine And.intro ⟨(by omega), (by omega)⟩ ⟨fun h144 => ?_, fun h144 => ?_⟩
    · refine hQ _ (by have e9 : n = bnn s := (by omega); subst e9; exact hM) hk1 (fun c j h0 h1 => ((fr c j h0 h1).trans rfl))
    · refine And.intro (zA_165 hS) (zrdR (v := some g) hg ?_)
      refine And.intro (zDX hdg 0 rfl) (zrdR (v := some (g + 10)) (zDR hdg 9 rfl) ?_)
      refine And.intro (Or.inr (zDP hdg 10 rfl rfl (by omega) (by omega))) (fun v155 e155 r155 => ?_)
      have f155 : v155 = bN s n 2 := (e155.trans ((congrArg (I1 (g + 10)) (by omega)).trans (hb1.2.2.2.2.1 n (by omega)).1))
      refine And.intro r155 ⟨fun h156 => ?_, fun h156 => ?_⟩
      · have t156 : bN s n 2 = 1 := (by have z := (gn n (by omega)).2.2.1; omega)
        refine ⟨((20 - n), 50, (10 - (0 : Nat))), zlt6 (by omega), [some (zvr (165)), some (zvi (0)), some (zvi (n)), some (zvi ((0 : Nat))), none], ⟨rfl, rfl, rfl, rfl, rfl⟩, n, 0, rfl, rfl, rfl, rfl, rfl, rfl, (by omega), (by omega), t156, hk1, (hM.trans (by rw [show cuC (fun l => cuC (fun r => cuLn s n l r 1) (bH s)) 0 = [] from rfl, List.append_nil])), (fun c j h0 h1 => ((fr c j h0 h1).trans rfl))⟩
      · have t156 : ¬ bN s n 2 = 1 := (by omega)
        refine ⟨((20 - (n + 1)), 99, 0), zlt6 (by omega), [some (zvr (165)), some (zvi (0)), some (zvi ((n + 1))), none, none], ⟨rfl, rfl, rfl, rfl⟩, (n + 1), rfl, rfl, rfl, rfl, rfl, rfl, (by omega), hk1, (hM.trans (by rw [cuS_sn t156])), (fun c j h0 h1 => ((fr c j h0 h1).trans rfl))⟩
  · rintro nM lsM stM I1 L1 R1 S1 hz1 ⟨n, l, rfl, rfl, rfl, rfl, rfl, rfl, hl, hnl, hky, hk1, hM, fr⟩
    have hb1 : zBB g (-1) s I1 L1 := (zBB_fr hBB (fun c j h => fr c j (by omega) (by omega)) (fun c j h => rfl))
    have hbd1 : I1 g 3 = bD s := hb1.1.2.2.1
    have hn15 : I1 165 15 = bnp s := (fr 165 15 (by omega) (by omega)).trans hPB.1
    have hn22 : I1 165 22 = bnn s := (fr 165 22 (by omega) (by omega)).trans hPB.2.1
    have hw0 := cuS_wl (s := s) (n := n) gW2 gH2 gD2 gnp
    have hw1 := cuNt_le (s := s) (n := n) gW2 gH2 gD2
    have hwx := cuRp_1 (s := s) (net := (n : Int)) (l := l) gW2 gH2
    have hwl : ((cuC (fun p => [cuPd s p]) (bnp s) ++ cuC (cuNt s) n) ++ cuC (fun l => cuC (fun r => cuLn s n l r 1) (bH s)) l).length ≤ 80000 := (by rw [List.length_append]; omega)
    refine And.intro (zA_165 hS) (zrdR (v := some g) hg ?_)
    refine And.intro (zDX hdg 0 rfl) (zrd (v := (bD s)) ((fr g 3 (by omega) (by omega)).trans hbd) ?_)
    refine And.intro ⟨(by omega), (by omega)⟩ ⟨fun h172 => ?_, fun h172 => ?_⟩
    · refine ⟨((20 - n), 40, (10 - (0 : Nat))), zlt6 (by omega), [some (zvr (165)), some (zvi (0)), some (zvi (n)), some (zvi ((0 : Nat))), none], ⟨rfl, rfl, rfl, rfl, rfl⟩, n, 0, rfl, rfl, rfl, rfl, rfl, rfl, (by omega), (by omega), (by omega), hk1, (hM.trans (by have e9 : l = bD s := (by omega); subst e9; rw [show cuC (fun l => cuC (fun r => cuLn s n l r 0) (bW s)) 0 = [] from rfl, List.append_nil, cuRs_1])), (fun c j h0 h1 => ((fr c j h0 h1).trans rfl))⟩
    · refine And.intro (zA_165 hS) ⟨_, sn_Y_run1c.up (by decide), ?_⟩
      refine ⟨g, ((cuC (fun p => [cuPd s p]) (bnp s) ++ cuC (cuNt s) n) ++ cuC (fun l => cuC (fun r => cuLn s n l r 1) (bH s)) l), s, (n : Int), l, rfl, hS, hR, hg, hdg, hb1, (by first | exact hGd | (clear hQ; grind [xu])), (by omega), hk1, hM, hwl, (by omega), ?_⟩
      intro I179o p179h42 p179bfr
      refine ⟨((20 - n), 50, (10 - (l + 1))), zlt6 (by omega), [some (zvr (165)), some (zvi (0)), some (zvi (n)), some (zvi ((l + 1))), none], ⟨rfl, rfl, rfl, rfl, rfl⟩, n, (l + 1), rfl, rfl, rfl, rfl, rfl, rfl, (by omega), (by omega), (by omega), ((p179bfr 165 41 (by omega)).trans hk1), (p179h42.trans (by rw [List.append_assoc]; rfl)), (fun c j h0 h1 => ((p179bfr c j h1).trans ((fr c j h0 h1).trans rfl)))⟩
  · rintro nM lsM stM I1 L1 R1 S1 hz1 ⟨n, l, rfl, rfl, rfl, rfl, rfl, rfl, hl, hnl, hky, hk1, hM, fr⟩
    have hb1 : zBB g (-1) s I1 L1 := (zBB_fr hBB (fun c j h => fr c j (by omega) (by omega)) (fun c j h => rfl))
    have hbd1 : I1 g 3 = bD s := hb1.1.2.2.1
    have hn15 : I1 165 15 = bnp s := (fr 165 15 (by omega) (by omega)).trans hPB.1
    have hn22 : I1 165 22 = bnn s := (fr 165 22 (by omega) (by omega)).trans hPB.2.1
    have hw0 := cuS_wl (s := s) (n := n) gW2 gH2 gD2 gnp
    have hw1 := cuNt_le (s := s) (n := n) gW2 gH2 gD2
    have hwx := cuRp_0 (s := s) (net := (n : Int)) (l := l) gW2 gH2
    have hwl : (((cuC (fun p => [cuPd s p]) (bnp s) ++ cuC (cuNt s) n) ++ cuRs s n 1) ++ cuC (fun l => cuC (fun r => cuLn s n l r 0) (bW s)) l).length ≤ 80000 := (by rw [List.length_append, List.length_append]; omega)
    refine And.intro (zA_165 hS) (zrdR (v := some g) hg ?_)
    refine And.intro (zDX hdg 0 rfl) (zrd (v := (bD s)) ((fr g 3 (by omega) (by omega)).trans hbd) ?_)
    refine And.intro ⟨(by omega), (by omega)⟩ ⟨fun h198 => ?_, fun h198 => ?_⟩
    · refine ⟨((20 - n), 30, (10 - (0 : Nat))), zlt6 (by omega), [some (zvr (165)), some (zvi (0)), some (zvi (n)), some (zvi ((0 : Nat))), none], ⟨rfl, rfl, rfl, rfl, rfl⟩, n, 0, rfl, rfl, rfl, rfl, rfl, rfl, (by omega), (by omega), (by omega), hk1, (hM.trans (by have e9 : l = bD s := (by omega); subst e9; rw [show cuC (fun l => cuH1 s n l (bH s)) 0 = [] from rfl, List.append_nil, cuRs_0])), (fun c j h0 h1 => ((fr c j h0 h1).trans rfl))⟩
    · refine And.intro (zA_165 hS) ⟨_, sn_Y_run0c.up (by decide), ?_⟩
      refine ⟨g, (((cuC (fun p => [cuPd s p]) (bnp s) ++ cuC (cuNt s) n) ++ cuRs s n 1) ++ cuC (fun l => cuC (fun r => cuLn s n l r 0) (bW s)) l), s, (n : Int), l, rfl, hS, hR, hg, hdg, hb1, (by first | exact hGd | (clear hQ; grind [xu])), (by omega), hk1, hM, hwl, (by omega), ?_⟩
      intro I205o p205h42 p205bfr
      refine ⟨((20 - n), 40, (10 - (l + 1))), zlt6 (by omega), [some (zvr (165)), some (zvi (0)), some (zvi (n)), some (zvi ((l + 1))), none], ⟨rfl, rfl, rfl, rfl, rfl⟩, n, (l + 1), rfl, rfl, rfl, rfl, rfl, rfl, (by omega), (by omega), (by omega), ((p205bfr 165 41 (by omega)).trans hk1), (p205h42.trans (by rw [List.append_assoc]; rfl)), (fun c j h0 h1 => ((p205bfr c j h1).trans ((fr c j h0 h1).trans rfl)))⟩
  · rintro nM lsM stM I1 L1 R1 S1 hz1 ⟨n, l, rfl, rfl, rfl, rfl, rfl, rfl, hl, hnl, hky, hk1, hM, fr⟩
    have hb1 : zBB g (-1) s I1 L1 := (zBB_fr hBB (fun c j h => fr c j (by omega) (by omega)) (fun c j h => rfl))
    have hbd1 : I1 g 3 = bD s := hb1.1.2.2.1
    have hn15 : I1 165 15 = bnp s := (fr 165 15 (by omega) (by omega)).trans hPB.1
    have hn22 : I1 165 22 = bnn s := (fr 165 22 (by omega) (by omega)).trans hPB.2.1
    have hw0 := cuS_wl (s := s) (n := n) gW2 gH2 gD2 gnp
    have hw1 := cuNt_le (s := s) (n := n) gW2 gH2 gD2
    have hwx := cuRp_h (s := s) (net := (n : Int)) (l := l) gW2 gH2
    have hwl : ((((cuC (fun p => [cuPd s p]) (bnp s) ++ cuC (cuNt s) n) ++ cuRs s n 1) ++ cuRs s n 0) ++ cuC (fun l => cuH1 s n l (bH s)) l).length ≤ 80000 := (by rw [List.length_append, List.length_append, List.length_append]; omega)
    refine And.intro (zA_165 hS) (zrdR (v := some g) hg ?_)
    refine And.intro (zDX hdg 0 rfl) (zrd (v := (bD s)) ((fr g 3 (by omega) (by omega)).trans hbd) ?_)
    refine And.intro ⟨(by omega), (by omega)⟩ ⟨fun h226 => ?_, fun h226 => ?_⟩
    · refine ⟨((20 - (n + 1)), 99, 0), zlt6 (by omega), [some (zvr (165)), some (zvi (0)), some (zvi ((n + 1))), none, none], ⟨rfl, rfl, rfl, rfl⟩, (n + 1), rfl, rfl, rfl, rfl, rfl, rfl, (by omega), hk1, (hM.trans (by have e9 : l = bD s - 1 := (by omega); rw [e9, ← cuHs_e, cuS_sy hky])), (fun c j h0 h1 => ((fr c j h0 h1).trans rfl))⟩
    · refine And.intro (zA_165 hS) ⟨_, sn_Y_hof0.up (by decide), ?_⟩
      refine ⟨g, ((((cuC (fun p => [cuPd s p]) (bnp s) ++ cuC (cuNt s) n) ++ cuRs s n 1) ++ cuRs s n 0) ++ cuC (fun l => cuH1 s n l (bH s)) l), s, (n : Int), l, rfl, hS, hR, hg, hdg, hb1, (by first | exact hGd | (clear hQ; grind [xu])), (by omega), hk1, hM, hwl, (by omega), ?_⟩
      intro I232o p232h42 p232bfr
      refine ⟨((20 - n), 30, (10 - (l + 1))), zlt6 (by omega), [some (zvr (165)), some (zvi (0)), some (zvi (n)), some (zvi ((l + 1))), none], ⟨rfl, rfl, rfl, rfl, rfl⟩, n, (l + 1), rfl, rfl, rfl, rfl, rfl, rfl, (by omega), (by omega), (by omega), ((p232bfr 165 41 (by omega)).trans hk1), (p232h42.trans (by rw [List.append_assoc]; rfl)), (fun c j h0 h1 => ((p232bfr c j h1).trans ((fr c j h0 h1).trans rfl)))⟩)
