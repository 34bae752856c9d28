/-! yr -/
def T_Y_go1 : ZT := fun args I L R S Q => ∃ (k : Nat) (q : Nat) (d : Nat) (g : Nat) (s : BdS) (D : Int), args = [zvr 165, zvi 1] ∧ (zSh S) ∧ (zRs R) ∧ (R 165 32 = some k) ∧ (zDy zT14 zF14 k R S) ∧ (R 165 31 = some q) ∧ (zDy zT15 zF15 q R S) ∧ (R 165 43 = some d) ∧ (zDy zT16 zF16 d R S) ∧ (R 165 12 = some g) ∧ (zDy zT17 zF17 g R S) ∧ (zBB g (-1) s I L) ∧ (bGd s) ∧ (zPB s I) ∧ (zCk k [] I L ∧ zFrs k 0 I L) ∧ (zPc q [] 0 I L) ∧ (zDh d [] I L ∧ zMh [] I) ∧ (I k 1 = D ∧ I q 1 = D ∧ D = bD s) ∧ (I k 11 = 0 ∧ I k 23 = 0) ∧ ((302 ≤ k ∧ 302 ≤ q ∧ 302 ≤ d ∧ 302 ≤ g) ∧ (k + 17 < q ∨ q + 13 < k) ∧ (k + 17 < d ∨ d + 21 < k) ∧ (q + 13 < d ∨ d + 21 < q) ∧ (g + 18 < k ∨ k + 17 < g) ∧ (g + 18 < q ∨ q + 13 < g) ∧ (g + 18 < d ∨ d + 21 < g)) ∧ ((cuS s).length ≤ 60) ∧ ∀ (I' : ZI) (L' : ZI), (zMK k q d (cuS s) (bnp s) D I' L') → (∀ c j : Nat, ¬ (c = 165 ∧ j = 41) → ¬ (c = 165 ∧ j = 42) → ¬ (c = 165 ∧ j = 35) → ¬ c = 208 → ¬ c = 209 → ¬ c = 210 → ¬ (k ≤ c ∧ c ≤ k + 17) → ¬ (q ≤ c ∧ c ≤ q + 13) → ¬ (d ≤ c ∧ c ≤ d + 21) → I' c j = I c j) → (∀ c j : Nat, ¬ (k ≤ c ∧ c ≤ k + 17) → ¬ (q ≤ c ∧ c ≤ q + 13) → ¬ (d ≤ c ∧ c ≤ d + 21) → L' c j = L c j) → Q none I' L' R S
theorem sn_Y_go1 : ZSnd 6 21 24 T_Y_go1 := ZSnd.loops (zT21_24 5) (by
  rintro args I L R S Q hz ⟨k, q, d, g, s, D, rfl, hS, hR, hrf, hd, hrc, hdq, hrd, hdd, hg, hdg, hBB, hGd, hPB, hC0, hP0, hD0, hDD, hz11, hdis, hlen, hQ⟩
  obtain ⟨⟨⟨gW1, gW2⟩, ⟨gH1, gH2⟩, ⟨gD1, gD2⟩, gB9⟩, ⟨gnp, gnn⟩, gc, gp, gn, gco, gnd, gun⟩ := id hGd
  have hbd := hBB.1.2.2.1
  have hn150 := hPB.1
  have hn220 := hPB.2.1
  have hra1 : cuRa 1 = 300 := rfl
  have hkd1 : cuKd 1 = 1 := rfl
  have hD9 := hDD.2.2
  refine ⟨[12, 139, 164, 190, 216], fun nM tM lsM stM I1 L1 R1 S1 => match tM with
      | 12 => ∃ (p : Nat), nM = (99, (41 - p), 0) ∧ lsM = [some (zvr (165)), some (zvi (1)), some (zvi (p)), none, none] ∧ stM = [] ∧ R1 = R ∧ S1 = S ∧ (p ≤ bnp s) ∧ (zMK k q d (cuC (fun p => [cuPd s p]) p) p D I1 L1) ∧ (∀ c j : Nat, ¬ (c = 165 ∧ j = 41) → ¬ (c = 165 ∧ j = 42) → ¬ (c = 165 ∧ j = 35) → ¬ c = 208 → ¬ c = 209 → ¬ c = 210 → ¬ (k ≤ c ∧ c ≤ k + 17) → ¬ (q ≤ c ∧ c ≤ q + 13) → ¬ (d ≤ c ∧ c ≤ d + 21) → I1 c j = I c j) ∧ (∀ c j : Nat, ¬ (k ≤ c ∧ c ≤ k + 17) → ¬ (q ≤ c ∧ c ≤ q + 13) → ¬ (d ≤ c ∧ c ≤ d + 21) → L1 c j = L c j)
      | 139 => ∃ (n : Nat), nM = ((20 - n), 99, 0) ∧ lsM = [some (zvr (165)), some (zvi (1)), some (zvi (n)), none, none] ∧ stM = [] ∧ R1 = R ∧ S1 = S ∧ (n ≤ bnn s) ∧ (zMK k q d (cuC (fun p => [cuPd s p]) (bnp s) ++ cuC (cuNt s) n) (bnp s) D I1 L1) ∧ (∀ c j : Nat, ¬ (c = 165 ∧ j = 41) → ¬ (c = 165 ∧ j = 42) → ¬ (c = 165 ∧ j = 35) → ¬ c = 208 → ¬ c = 209 → ¬ c = 210 → ¬ (k ≤ c ∧ c ≤ k + 17) → ¬ (q ≤ c ∧ c ≤ q + 13) → ¬ (d ≤ c ∧ c ≤ d + 21) → I1 c j = I c j) ∧ (∀ c j : Nat, ¬ (k ≤ c ∧ c ≤ k + 17) → ¬ (q ≤ c ∧ c ≤ q + 13) → ¬ (d ≤ c ∧ c ≤ d + 21) → L1 c j = L c j)
      | 164 => ∃ (n : Nat) (l : Nat), nM = ((20 - n), 50, (10 - l)) ∧ lsM = [some (zvr (165)), some (zvi (1)), some (zvi (n)), some (zvi (l)), none] ∧ stM = [] ∧ R1 = R ∧ S1 = S ∧ (l ≤ bD s) ∧ (n < bnn s) ∧ (bN s n 2 = 1) ∧ (zMK k q d ((cuC (fun p => [cuPd s p]) (bnp s) ++ cuC (cuNt s) n) ++ cuC (fun l => cuC (fun r => cuLn s n l r 1) (bH s)) l) (bnp s) D I1 L1) ∧ (∀ c j : Nat, ¬ (c = 165 ∧ j = 41) → ¬ (c = 165 ∧ j = 42) → ¬ (c = 165 ∧ j = 35) → ¬ c = 208 → ¬ c = 209 → ¬ c = 210 → ¬ (k ≤ c ∧ c ≤ k + 17) → ¬ (q ≤ c ∧ c ≤ q + 13) → ¬ (d ≤ c ∧ c ≤ d + 21) → I1 c j = I c j) ∧ (∀ c j : Nat, ¬ (k ≤ c ∧ c ≤ k + 17) → ¬ (q ≤ c ∧ c ≤ q + 13) → ¬ (d ≤ c ∧ c ≤ d + 21) → L1 c j = L c j)
      | 190 => ∃ (n : Nat) (l : Nat), nM = ((20 - n), 40, (10 - l)) ∧ lsM = [some (zvr (165)), some (zvi (1)), some (zvi (n)), some (zvi (l)), none] ∧ stM = [] ∧ R1 = R ∧ S1 = S ∧ (l ≤ bD s) ∧ (n < bnn s) ∧ (bN s n 2 = 1) ∧ (zMK k q d (((cuC (fun p => [cuPd s p]) (bnp s) ++ cuC (cuNt s) n) ++ cuRs s n 1) ++ cuC (fun l => cuC (fun r => cuLn s n l r 0) (bW s)) l) (bnp s) D I1 L1) ∧ (∀ c j : Nat, ¬ (c = 165 ∧ j = 41) → ¬ (c = 165 ∧ j = 42) → ¬ (c = 165 ∧ j = 35) → ¬ c = 208 → ¬ c = 209 → ¬ c = 210 → ¬ (k ≤ c ∧ c ≤ k + 17) → ¬ (q ≤ c ∧ c ≤ q + 13) → ¬ (d ≤ c ∧ c ≤ d + 21) → I1 c j = I c j) ∧ (∀ c j : Nat, ¬ (k ≤ c ∧ c ≤ k + 17) → ¬ (q ≤ c ∧ c ≤ q + 13) → ¬ (d ≤ c ∧ c ≤ d + 21) → L1 c j = L c j)
      | 216 => ∃ (n : Nat) (l : Nat), nM = ((20 - n), 30, (10 - l)) ∧ lsM = [some (zvr (165)), some (zvi (1)), some (zvi (n)), some (zvi (l)), none] ∧ stM = [] ∧ R1 = R ∧ S1 = S ∧ (l + 1 ≤ bD s) ∧ (n < bnn s) ∧ (bN s n 2 = 1) ∧ (zMK k q d ((((cuC (fun p => [cuPd s p]) (bnp s) ++ cuC (cuNt s) n) ++ cuRs s n 1) ++ cuRs s n 0) ++ cuC (fun l => cuH1 s n l (bH s)) l) (bnp s) D I1 L1) ∧ (∀ c j : Nat, ¬ (c = 165 ∧ j = 41) → ¬ (c = 165 ∧ j = 42) → ¬ (c = 165 ∧ j = 35) → ¬ c = 208 → ¬ c = 209 → ¬ c = 210 → ¬ (k ≤ c ∧ c ≤ k + 17) → ¬ (q ≤ c ∧ c ≤ q + 13) → ¬ (d ≤ c ∧ c ≤ d + 21) → I1 c j = I c j) ∧ (∀ c j : Nat, ¬ (k ≤ c ∧ c ≤ k + 17) → ¬ (q ≤ c ∧ c ≤ q + 13) → ¬ (d ≤ c ∧ c ≤ d + 21) → L1 c j = L c j)
      | _ => False, rfl, ?_, ⟨?_, ?_, ?_, ?_, ?_, True.intro⟩⟩
  · refine And.intro ⟨(zA_165 hS), (Or.inr rfl)⟩ ?_
    refine And.intro (zA_165 hS) ⟨_, (zWi (zRb rfl)), ?_⟩
    refine ⟨(99, (41 - (0 : Nat)), 0), [some (zvr (165)), some (zvi (1)), some (zvi ((0 : Nat))), none, none], ⟨rfl, rfl, rfl, rfl⟩, 0, rfl, rfl, rfl, rfl, rfl, (by omega), ⟨⟨zCk_fr hC0.1 (fun c9 j9 h9 => zxu (by omega) (zxu (by omega) rfl)) (fun c9 j9 h9 => rfl), zFrs_fr hC0.2 (fun c9 j9 h9 => zxu (by omega) (zxu (by omega) rfl)) (fun c9 j9 h9 => rfl)⟩, ⟨zPc_fr hP0 (fun c9 j9 h9 => zxu (by omega) (zxu (by omega) rfl)) (fun c9 j9 h9 => rfl), Nat.le_refl 0, Nat.zero_le _⟩, ⟨zDh_fr hD0.1 (fun c9 j9 h9 => zxu (by omega) (zxu (by omega) rfl)) (fun c9 j9 h9 => rfl), zMh_fr hD0.2 (fun c9 j9 h9 => zxcj (by omega) (zxcj (by omega) rfl)), cu3_n fun r hr => absurd hr List.not_mem_nil⟩, ⟨⟨zxu (by omega) (zxu (by omega) hDD.1), zxu (by omega) (zxu (by omega) hz11.1), zxu (by omega) (zxu (by omega) hz11.2)⟩, zxu (by omega) (zxu (by omega) hDD.2.1), by omega⟩, zxe, zxs (by decide) zxe⟩, (fun c j h0 h1 h2 h3 h4 h5 h6 h7 h8 => (zxcj h1 (zxcj h0 rfl))), (fun c j h0 h1 h2 => rfl)⟩
  · rintro nM lsM stM I1 L1 R1 S1 hz1 ⟨p, rfl, rfl, rfl, rfl, rfl, hp, hM, fr, frL⟩
    have hb1 : zBB g (-1) s I1 L1 := (zBB_fr hBB (fun c j h => fr c j (by omega) (by omega) (by omega) (by omega) (by omega) (by omega) (by omega) (by omega) (by omega)) (fun c j h => frL c j (by omega) (by omega) (by omega)))
    have hbd1 : I1 g 3 = bD s := hb1.1.2.2.1
    have hn15 : I1 165 15 = bnp s := (fr 165 15 (by omega) (by omega) (by omega) (by omega) (by omega) (by omega) (by omega) (by omega) (by omega)).trans hPB.1
    have hn22 : I1 165 22 = bnn s := (fr 165 22 (by omega) (by omega) (by omega) (by omega) (by omega) (by omega) (by omega) (by omega) (by omega)).trans hPB.2.1
    obtain ⟨⟨m1, m2⟩, ⟨m3, m4⟩, ⟨m5, m6, m7⟩, ⟨m8, m9, m10⟩, m11, m12⟩ := id hM
    have hPB1 : zPB s I1 := zPB_fr hPB (fun c j h => fr c j (by omega) (by omega) (by omega) (by omega) (by omega) (by omega) (by omega) (by omega) (by omega))
    refine And.intro (zA_165 hS) (zrd (v := (bnp s)) ((fr 165 15 (by omega) (by omega) (by omega) (by omega) (by omega) (by omega) (by omega) (by omega) (by omega)).trans hn150) ?_)
    refine And.intro ⟨(by omega), (by omega)⟩ ⟨fun h17 => ?_, fun h17 => ?_⟩
    · refine ⟨((20 - (0 : Nat)), 99, 0), zlt6 (by omega), [some (zvr (165)), some (zvi (1)), some (zvi ((0 : Nat))), none, none], ⟨rfl, rfl, rfl, rfl⟩, 0, rfl, rfl, rfl, rfl, rfl, (by omega), (by have e9 : p = bnp s := (by omega); subst e9; exact zMK_e hM (List.append_nil _).symm), (fun c j h0 h1 h2 h3 h4 h5 h6 h7 h8 => ((fr c j h0 h1 h2 h3 h4 h5 (by omega) (by omega) (by omega)).trans rfl)), (fun c j h0 h1 h2 => ((frL c j (by omega) (by omega) (by omega)).trans rfl))⟩
    · have t17 : p + 1 ≤ bnp s := (by omega)
      have t17b : I1 202 p = bP s p 3 ∧ 0 ≤ bP s p 3 ∧ bP s p 3 ≤ 11 := (by have z := hPB1.2.2.1 p (by omega); have z2 := (gp p (by omega)).2.2.2.1; exact ⟨z.1.2.2, by omega, by omega⟩)
      have t17bb : ((0 ≤ I1 199 p ∧ I1 199 p < bD s) ∧ (0 ≤ I1 200 p ∧ I1 200 p < bW s) ∧ 0 ≤ I1 201 p ∧ I1 201 p < bH s) ∧ cuPd s p = cRw 1 (bP s p 3) (I1 199 p) (16 * I1 201 p + I1 200 p) (16 * I1 201 p + I1 200 p) := (cuPd_c (hPB1.2.2.1 p (by omega)).2 (gp p (by omega)).2.2.1.1)
      have t17bbb : 0 ≤ I1 199 p ∧ I1 199 p + 1 ≤ bD s := (by omega)
      have t17bbbb : 0 ≤ I1 200 p ∧ I1 200 p ≤ 15 := (by omega)
      have t17bbbbb : 0 ≤ I1 201 p ∧ I1 201 p ≤ 15 := (by omega)
      refine And.intro (zA_165 hS) (zrdR (v := some 202) (zR_165_21 hR) ?_)
      refine And.intro (zP_202 hS (by omega) (by omega)) (fun v26 e26 r26 => ?_)
      have f26 : v26 = I1 202 p := (e26.trans (congrArg (I1 202) (by omega)))
      refine And.intro (zA_165 hS) (zrdR (v := some 199) (zR_165_18 hR) ?_)
      refine And.intro (zP_199 hS (by omega) (by omega)) (fun v32 e32 r32 => ?_)
      have f32 : v32 = I1 199 p := (e32.trans (congrArg (I1 199) (by omega)))
      refine And.intro (zA_165 hS) (zrdR (v := some 200) (zR_165_19 hR) ?_)
      refine And.intro (zP_200 hS (by omega) (by omega)) (fun v40 e40 r40 => ?_)
      have f40 : v40 = I1 200 p := (e40.trans (congrArg (I1 200) (by omega)))
      refine And.intro (zA_165 hS) (zrdR (v := some 201) (zR_165_20 hR) ?_)
      refine And.intro (zP_201 hS (by omega) (by omega)) (fun v46 e46 r46 => ?_)
      have f46 : v46 = I1 201 p := (e46.trans (congrArg (I1 201) (by omega)))
      refine And.intro (zA_165 hS) (zrdR (v := some 200) (zR_165_19 hR) ?_)
      refine And.intro (zP_200 hS (by omega) (by omega)) (fun v52 e52 r52 => ?_)
      have f52 : v52 = I1 200 p := (e52.trans (congrArg (I1 200) (by omega)))
      refine And.intro (zA_165 hS) (zrdR (v := some 201) (zR_165_20 hR) ?_)
      refine And.intro (zP_201 hS (by omega) (by omega)) (fun v58 e58 r58 => ?_)
      have f58 : v58 = I1 201 p := (e58.trans (congrArg (I1 201) (by omega)))
      refine And.intro (zA_165 hS) ⟨_, sn_Y_sh1.up (by decide), ?_⟩
      refine ⟨k, (cuC (fun p => [cuPd s p]) p), (v26 : Int), (v32 : Int), (1 : Int), (1 : Int), (v40 : Int), (v46 : Int), (v52 : Int), (v58 : Int), (300 : Int), p, D, rfl, hS, hR, hrf, hd, m12, (m11.trans (by rw [cuC_1])), (by omega), m1, m2, (by rw [cuC_1]; omega), m8.1, ⟨by omega, by omega, by omega, hkd1.symm, hra1.symm, by omega, by omega, by omega⟩, ⟨fun _ => by omega, fun h => absurd h (by decide)⟩, (by omega), ?_⟩
      intro I62o L62o p62h42 p62bhCk2 p62bbhFr2 p62bbbfr p62bbbbfrL
      refine And.intro (zA_165 hS) (fun v66 e66 r66 => ?_)
      have f66 : v66 = 1 := (e66.trans ((p62bbbfr 165 41 (by omega) (by omega) (by omega) (by omega) (by omega) (by omega) (by omega) (by omega)).trans m12))
      refine And.intro r66 ⟨fun h69 => ?_, (fun h69 => False.elim (by omega))⟩
      refine And.intro (zA_165 hS) (zrdR (v := some q) hrc ?_)
      refine And.intro (zA_165 hS) (zrdR (v := some 199) (zR_165_18 hR) ?_)
      refine And.intro (zP_199 hS (by omega) (by omega)) (fun v85 e85 r85 => ?_)
      have f85 : v85 = I1 199 p := (e85.trans (((p62bbbfr 199 _ (by omega) (by omega) (by omega) (by omega) (by omega) (by omega) (by omega) (by omega)).trans rfl).trans (congrArg (I1 199) (by omega))))
      refine And.intro (zA_165 hS) (zrdR (v := some 200) (zR_165_19 hR) ?_)
      refine And.intro (zP_200 hS (by omega) (by omega)) (fun v94 e94 r94 => ?_)
      have f94 : v94 = I1 200 p := (e94.trans (((p62bbbfr 200 _ (by omega) (by omega) (by omega) (by omega) (by omega) (by omega) (by omega) (by omega)).trans rfl).trans (congrArg (I1 200) (by omega))))
      refine And.intro r94 ?_
      refine And.intro (zA_165 hS) (zrdR (v := some 201) (zR_165_20 hR) ?_)
      refine And.intro (zP_201 hS (by omega) (by omega)) (fun v105 e105 r105 => ?_)
      have f105 : v105 = I1 201 p := (e105.trans (((p62bbbfr 201 _ (by omega) (by omega) (by omega) (by omega) (by omega) (by omega) (by omega) (by omega)).trans rfl).trans (congrArg (I1 201) (by omega))))
      refine And.intro r105 ?_
      refine And.intro (zDX hdq 0 rfl) ⟨_, sn_W_pad.up (by decide), ?_⟩
      refine ⟨_, p, D, (p : Int), (v85 : Int), ((1000 * v94) : Int), ((1000 * v105) : Int), (300 : Int), rfl, hS, hR, hdq, ((p62bbbfr q 2 (by omega) (by omega) (by omega) (by omega) (by omega) (by omega) (by omega) (by omega)).trans (m3.1.trans (by rw [cuNp_ps]))), (by omega), ((p62bbbfr q 1 (by omega) (by omega) (by omega) (by omega) (by omega) (by omega) (by omega) (by omega)).trans m9), (by omega), ?_⟩
      intro v111o I111o L111o p111hv p111bh2 p111bbhw p111bbbfr p111bbbbfrL
      refine And.intro (zA_165 hS) (zrdR (v := some q) hrc ?_)
      refine And.intro (zA_165 hS) (zrdR (v := some 202) (zR_165_21 hR) ?_)
      refine And.intro (zP_202 hS (by omega) (by omega)) (fun v125 e125 r125 => ?_)
      have f125 : v125 = I1 202 p := (e125.trans (((p111bbbfr 202 _ (by omega) (by omega) (by omega) (by omega) (by omega) (by omega)).trans ((p62bbbfr 202 _ (by omega) (by omega) (by omega) (by omega) (by omega) (by omega) (by omega) (by omega)).trans rfl)).trans (congrArg (I1 202) (by omega))))
      refine And.intro (zDX hdq 0 rfl) ⟨_, sn_W_plns.up (by decide), ?_⟩
      refine ⟨_, p, (v125 : Int), rfl, hS, hR, hdq, (by omega), ?_⟩
      intro v126o I126o p126hx p126bfr
      refine ⟨(99, (41 - (p + 1)), 0), zlt6 (by omega), [some (zvr (165)), some (zvi (1)), some (zvi ((p + 1))), none, none], ⟨rfl, rfl, rfl, rfl⟩, (p + 1), rfl, rfl, rfl, rfl, rfl, (by omega), ?_, (fun c j h0 h1 h2 h3 h4 h5 h6 h7 h8 => ((p126bfr c j (by omega) (by omega)).trans ((p111bbbfr c j (by omega) (by omega) (by omega) (by omega) (by omega) (by omega)).trans ((p62bbbfr c j h1 (by omega) (by omega) (by omega) (by omega) (by omega) (by omega) (by omega)).trans ((fr c j h0 h1 h2 h3 h4 h5 (by omega) (by omega) (by omega)).trans rfl))))), (fun c j h0 h1 h2 => ((p111bbbbfrL c j (by omega) (by omega) (by omega) (by omega) (by omega)).trans ((p62bbbbfrL c j (by omega) (by omega) (by omega)).trans ((frL c j (by omega) (by omega) (by omega)).trans rfl))))⟩
      · have hrow : cRw 1 v26 v32 (16 * v46 + v40) (16 * v58 + v52) = cuPd s p := by
          rw [f26, f32, f46, f40, f58, f52, t17b.1]
          exact t17bb.2.symm
        have z1 := p62bhCk2
        rw [hrow] at z1
        have hl9 : (cuC (fun p => [cuPd s p]) p).length = p := cuC_1 p
        have zP := zPc_p (net := bP s p 3) (l := I1 199 p) (x := I1 200 p) (y := I1 201 p) m3 hl9 (cuNp_ps p) (by omega) ((p126bfr q 2 (by omega) (by omega)).trans p111bh2) (zPw_fr (zPw_e p111bbhw f85 f85 rfl (by rw [f94]) (by rw [f105])) (fun c9 j9 h9 => p126bfr c9 j9 (by omega) (by omega)) (fun c9 j9 h9 => rfl)) (fun c9 j9 h9 => (p126bfr c9 j9 (by omega) (by omega)).trans ((p111bbbfr c9 j9 (by omega) (by omega) (by omega) (by omega) (by omega) (by omega)).trans (p62bbbfr c9 j9 (by omega) (by omega) (by omega) (by omega) (by omega) (by omega) (by omega) (by omega)))) (fun c9 j9 h9 => (p111bbbbfrL c9 j9 (by omega) (by omega) (by omega) (by omega) (by omega)).trans (p62bbbbfrL c9 j9 (by omega) (by omega) (by omega))) (p126hx.trans (f125.trans t17b.1)) (fun j9 hj9 hj8 => (p126bfr (q + 10) j9 (by omega) (by omega)).trans ((p111bbbfr (q + 10) j9 (by omega) (by omega) (by omega) (by omega) (by omega) (by omega)).trans (p62bbbfr (q + 10) j9 (by omega) (by omega) (by omega) (by omega) (by omega) (by omega) (by omega) (by omega))))
        rw [← t17bb.2] at zP
        exact zMK_p rfl hl9 (cuNp_ps p) m7 m10 (((p126bfr 165 42 (by omega) (by omega)).trans (p111bbbfr 165 42 (by omega) (by omega) (by omega) (by omega) (by omega) (by omega))).trans (p62h42.trans (by omega))) (zCk_fr z1 (fun c9 j9 h9 => (p126bfr c9 j9 (by omega) (by omega)).trans (p111bbbfr c9 j9 (by omega) (by omega) (by omega) (by omega) (by omega) (by omega))) (fun c9 j9 h9 => p111bbbbfrL c9 j9 (by omega) (by omega) (by omega) (by omega) (by omega))) (zFrs_fr p62bbhFr2 (fun c9 j9 h9 => (p126bfr c9 j9 (by omega) (by omega)).trans (p111bbbfr c9 j9 (by omega) (by omega) (by omega) (by omega) (by omega) (by omega))) (fun c9 j9 h9 => p111bbbbfrL c9 j9 (by omega) (by omega) (by omega) (by omega) (by omega))) zP (zDh_fr m5 (fun c9 j9 h9 => (p126bfr c9 j9 (by omega) (by omega)).trans ((p111bbbfr c9 j9 (by omega) (by omega) (by omega) (by omega) (by omega) (by omega)).trans (p62bbbfr c9 j9 (by omega) (by omega) (by omega) (by omega) (by omega) (by omega) (by omega) (by omega)))) (fun c9 j9 h9 => (p111bbbbfrL c9 j9 (by omega) (by omega) (by omega) (by omega) (by omega)).trans (p62bbbbfrL c9 j9 (by omega) (by omega) (by omega)))) (zMh_fr m6 (fun c9 j9 h9 => (p126bfr c9 j9 (by omega) (by omega)).trans ((p111bbbfr c9 j9 (by omega) (by omega) (by omega) (by omega) (by omega) (by omega)).trans (p62bbbfr c9 j9 (by omega) (by omega) (by omega) (by omega) (by omega) (by omega) (by omega) (by omega))))) ⟨⟨((p126bfr k 1 (by omega) (by omega)).trans ((p111bbbfr k 1 (by omega) (by omega) (by omega) (by omega) (by omega) (by omega)).trans (p62bbbfr k 1 (by omega) (by omega) (by omega) (by omega) (by omega) (by omega) (by omega) (by omega)))).trans m8.1, ((p126bfr k 11 (by omega) (by omega)).trans ((p111bbbfr k 11 (by omega) (by omega) (by omega) (by omega) (by omega) (by omega)).trans (p62bbbfr k 11 (by omega) (by omega) (by omega) (by omega) (by omega) (by omega) (by omega) (by omega)))).trans m8.2.1, ((p126bfr k 23 (by omega) (by omega)).trans ((p111bbbfr k 23 (by omega) (by omega) (by omega) (by omega) (by omega) (by omega)).trans (p62bbbfr k 23 (by omega) (by omega) (by omega) (by omega) (by omega) (by omega) (by omega) (by omega)))).trans m8.2.2⟩, ((p126bfr q 1 (by omega) (by omega)).trans ((p111bbbfr q 1 (by omega) (by omega) (by omega) (by omega) (by omega) (by omega)).trans (p62bbbfr q 1 (by omega) (by omega) (by omega) (by omega) (by omega) (by omega) (by omega) (by omega)))).trans m9⟩ (((p126bfr 165 41 (by omega) (by omega)).trans ((p111bbbfr 165 41 (by omega) (by omega) (by omega) (by omega) (by omega) (by omega)).trans (p62bbbfr 165 41 (by omega) (by omega) (by omega) (by omega) (by omega) (by omega) (by omega) (by omega)))).trans m12)
  · rintro nM lsM stM I1 L1 R1 S1 hz1 ⟨n, rfl, rfl, rfl, rfl, rfl, hn, hM, fr, frL⟩
    have hb1 : zBB g (-1) s I1 L1 := (zBB_fr hBB (fun c j h => fr c j (by omega) (by omega) (by omega) (by omega) (by omega) (by omega) (by omega) (by omega) (by omega)) (fun c j h => frL c j (by omega) (by omega) (by omega)))
    have hbd1 : I1 g 3 = bD s := hb1.1.2.2.1
    have hn15 : I1 165 15 = bnp s := (fr 165 15 (by omega) (by omega) (by omega) (by omega) (by omega) (by omega) (by omega) (by omega) (by omega)).trans hPB.1
    have hn22 : I1 165 22 = bnn s := (fr 165 22 (by omega) (by omega) (by omega) (by omega) (by omega) (by omega) (by omega) (by omega) (by omega)).trans hPB.2.1
    obtain ⟨⟨m1, m2⟩, ⟨m3, m4⟩, ⟨m5, m6, m7⟩, ⟨m8, m9, m10⟩, m11, m12⟩ := id hM
    refine And.intro (zA_165 hS) (zrd (v := (bnn s)) ((fr 165 22 (by omega) (by omega) (by omega) (by omega) (by omega) (by omega) (by omega) (by omega) (by omega)).trans hn220) ?_)
    refine And.intro ⟨(by omega), (by omega)⟩ ⟨fun h144 => ?_, fun h144 => ?_⟩
    · refine hQ _ _ (by have e9 : n = bnn s := (by omega); subst e9; exact hM) (fun c j h0 h1 h2 h3 h4 h5 h6 h7 h8 => ((fr c j h0 h1 h2 h3 h4 h5 (by omega) (by omega) (by omega)).trans rfl)) (fun c j h0 h1 h2 => ((frL c j (by omega) (by omega) (by omega)).trans rfl))
    · refine And.intro (zA_165 hS) (zrdR (v := some g) hg ?_)
      refine And.intro (zDX hdg 0 rfl) (zrdR (v := some (g + 10)) (zDR hdg 9 rfl) ?_)
      refine And.intro (Or.inr (zDP hdg 10 rfl rfl (by omega) (by omega))) (fun v155 e155 r155 => ?_)
      have f155 : v155 = bN s n 2 := (e155.trans ((congrArg (I1 (g + 10)) (by omega)).trans (hb1.2.2.2.2.1 n (by omega)).1))
      refine And.intro r155 ⟨fun h156 => ?_, fun h156 => ?_⟩
      · have t156 : bN s n 2 = 1 := (by have z := (gn n (by omega)).2.2.1; omega)
        refine ⟨((20 - n), 50, (10 - (0 : Nat))), zlt6 (by omega), [some (zvr (165)), some (zvi (1)), some (zvi (n)), some (zvi ((0 : Nat))), none], ⟨rfl, rfl, rfl, rfl, rfl⟩, n, 0, rfl, rfl, rfl, rfl, rfl, (by omega), (by omega), t156, (zMK_e hM (List.append_nil _).symm), (fun c j h0 h1 h2 h3 h4 h5 h6 h7 h8 => ((fr c j h0 h1 h2 h3 h4 h5 (by omega) (by omega) (by omega)).trans rfl)), (fun c j h0 h1 h2 => ((frL c j (by omega) (by omega) (by omega)).trans rfl))⟩
      · have t156 : ¬ bN s n 2 = 1 := (by omega)
        refine ⟨((20 - (n + 1)), 99, 0), zlt6 (by omega), [some (zvr (165)), some (zvi (1)), some (zvi ((n + 1))), none, none], ⟨rfl, rfl, rfl, rfl⟩, (n + 1), rfl, rfl, rfl, rfl, rfl, (by omega), (zMK_e hM (cuS_sn t156)), (fun c j h0 h1 h2 h3 h4 h5 h6 h7 h8 => ((fr c j h0 h1 h2 h3 h4 h5 (by omega) (by omega) (by omega)).trans rfl)), (fun c j h0 h1 h2 => ((frL c j (by omega) (by omega) (by omega)).trans rfl))⟩
  · rintro nM lsM stM I1 L1 R1 S1 hz1 ⟨n, l, rfl, rfl, rfl, rfl, rfl, hl, hnl, hky, hM, fr, frL⟩
    have hb1 : zBB g (-1) s I1 L1 := (zBB_fr hBB (fun c j h => fr c j (by omega) (by omega) (by omega) (by omega) (by omega) (by omega) (by omega) (by omega) (by omega)) (fun c j h => frL c j (by omega) (by omega) (by omega)))
    have hbd1 : I1 g 3 = bD s := hb1.1.2.2.1
    have hn15 : I1 165 15 = bnp s := (fr 165 15 (by omega) (by omega) (by omega) (by omega) (by omega) (by omega) (by omega) (by omega) (by omega)).trans hPB.1
    have hn22 : I1 165 22 = bnn s := (fr 165 22 (by omega) (by omega) (by omega) (by omega) (by omega) (by omega) (by omega) (by omega) (by omega)).trans hPB.2.1
    obtain ⟨⟨m1, m2⟩, ⟨m3, m4⟩, ⟨m5, m6, m7⟩, ⟨m8, m9, m10⟩, m11, m12⟩ := id hM
    refine And.intro (zA_165 hS) (zrdR (v := some g) hg ?_)
    refine And.intro (zDX hdg 0 rfl) (fun v169 e169 r169 => ?_)
    refine And.intro ⟨(by omega), r169⟩ ⟨fun h172 => ?_, fun h172 => ?_⟩
    · refine ⟨((20 - n), 40, (10 - (0 : Nat))), zlt6 (by omega), [some (zvr (165)), some (zvi (1)), some (zvi (n)), some (zvi ((0 : Nat))), none], ⟨rfl, rfl, rfl, rfl, rfl⟩, n, 0, rfl, rfl, rfl, rfl, rfl, (by omega), (by omega), (by omega), (by have e9 : l = bD s := (by omega); subst e9; exact zMK_e hM (by rw [show cuC (fun l => cuC (fun r => cuLn s n l r 0) (bW s)) 0 = [] from rfl, List.append_nil, cuRs_1])), (fun c j h0 h1 h2 h3 h4 h5 h6 h7 h8 => ((fr c j h0 h1 h2 h3 h4 h5 (by omega) (by omega) (by omega)).trans rfl)), (fun c j h0 h1 h2 => ((frL c j (by omega) (by omega) (by omega)).trans rfl))⟩
    · refine And.intro (zA_165 hS) ⟨_, sn_Y_run1.up (by decide), ?_⟩
      refine ⟨k, q, d, g, ((cuC (fun p => [cuPd s p]) (bnp s) ++ cuC (cuNt s) n) ++ cuC (fun l => cuC (fun r => cuLn s n l r 1) (bH s)) l), (bnp s), s, (n : Int), l, D, rfl, hS, hR, hrf, hd, hrc, hdq, hrd, hdd, hg, hdg, hb1, (by first | exact hGd | (clear hQ; grind [xu])), hM, hdis, (Nat.le_trans (cuS_A hnl hky (by omega)) hlen), (by omega), ?_⟩
      intro I179o L179o p179hMK2 p179bfr p179bbfrL
      refine ⟨((20 - n), 50, (10 - (l + 1))), zlt6 (by omega), [some (zvr (165)), some (zvi (1)), some (zvi (n)), some (zvi ((l + 1))), none], ⟨rfl, rfl, rfl, rfl, rfl⟩, n, (l + 1), rfl, rfl, rfl, rfl, rfl, (by omega), (by omega), (by omega), (zMK_e p179hMK2 (by rw [List.append_assoc]; rfl)), (fun c j h0 h1 h2 h3 h4 h5 h6 h7 h8 => ((p179bfr c j h1 h2 h3 h4 h5 (by omega) (by omega) (by omega)).trans ((fr c j h0 h1 h2 h3 h4 h5 (by omega) (by omega) (by omega)).trans rfl))), (fun c j h0 h1 h2 => ((p179bbfrL c j (by omega) (by omega) (by omega)).trans ((frL c j (by omega) (by omega) (by omega)).trans rfl)))⟩
  · rintro nM lsM stM I1 L1 R1 S1 hz1 ⟨n, l, rfl, rfl, rfl, rfl, rfl, hl, hnl, hky, hM, fr, frL⟩
    have hb1 : zBB g (-1) s I1 L1 := (zBB_fr hBB (fun c j h => fr c j (by omega) (by omega) (by omega) (by omega) (by omega) (by omega) (by omega) (by omega) (by omega)) (fun c j h => frL c j (by omega) (by omega) (by omega)))
    have hbd1 : I1 g 3 = bD s := hb1.1.2.2.1
    have hn15 : I1 165 15 = bnp s := (fr 165 15 (by omega) (by omega) (by omega) (by omega) (by omega) (by omega) (by omega) (by omega) (by omega)).trans hPB.1
    have hn22 : I1 165 22 = bnn s := (fr 165 22 (by omega) (by omega) (by omega) (by omega) (by omega) (by omega) (by omega) (by omega) (by omega)).trans hPB.2.1
    obtain ⟨⟨m1, m2⟩, ⟨m3, m4⟩, ⟨m5, m6, m7⟩, ⟨m8, m9, m10⟩, m11, m12⟩ := id hM
    refine And.intro (zA_165 hS) (zrdR (v := some g) hg ?_)
    refine And.intro (zDX hdg 0 rfl) (fun v195 e195 r195 => ?_)
    refine And.intro ⟨(by omega), r195⟩ ⟨fun h198 => ?_, fun h198 => ?_⟩
    · refine ⟨((20 - n), 30, (10 - (0 : Nat))), zlt6 (by omega), [some (zvr (165)), some (zvi (1)), some (zvi (n)), some (zvi ((0 : Nat))), none], ⟨rfl, rfl, rfl, rfl, rfl⟩, n, 0, rfl, rfl, rfl, rfl, rfl, (by omega), (by omega), (by omega), (by have e9 : l = bD s := (by omega); subst e9; exact zMK_e hM (by rw [show cuC (fun l => cuH1 s n l (bH s)) 0 = [] from rfl, List.append_nil, cuRs_0])), (fun c j h0 h1 h2 h3 h4 h5 h6 h7 h8 => ((fr c j h0 h1 h2 h3 h4 h5 (by omega) (by omega) (by omega)).trans rfl)), (fun c j h0 h1 h2 => ((frL c j (by omega) (by omega) (by omega)).trans rfl))⟩
    · refine And.intro (zA_165 hS) ⟨_, sn_Y_run0.up (by decide), ?_⟩
      refine ⟨k, q, d, g, (((cuC (fun p => [cuPd s p]) (bnp s) ++ cuC (cuNt s) n) ++ cuRs s n 1) ++ cuC (fun l => cuC (fun r => cuLn s n l r 0) (bW s)) l), (bnp s), s, (n : Int), l, D, rfl, hS, hR, hrf, hd, hrc, hdq, hrd, hdd, hg, hdg, hb1, (by first | exact hGd | (clear hQ; grind [xu])), hM, hdis, (Nat.le_trans (cuS_B hnl hky (by omega)) hlen), (by omega), ?_⟩
      intro I205o L205o p205hMK2 p205bfr p205bbfrL
      refine ⟨((20 - n), 40, (10 - (l + 1))), zlt6 (by omega), [some (zvr (165)), some (zvi (1)), some (zvi (n)), some (zvi ((l + 1))), none], ⟨rfl, rfl, rfl, rfl, rfl⟩, n, (l + 1), rfl, rfl, rfl, rfl, rfl, (by omega), (by omega), (by omega), (zMK_e p205hMK2 (by rw [List.append_assoc]; rfl)), (fun c j h0 h1 h2 h3 h4 h5 h6 h7 h8 => ((p205bfr c j h1 h2 h3 h4 h5 (by omega) (by omega) (by omega)).trans ((fr c j h0 h1 h2 h3 h4 h5 (by omega) (by omega) (by omega)).trans rfl))), (fun c j h0 h1 h2 => ((p205bbfrL c j (by omega) (by omega) (by omega)).trans ((frL c j (by omega) (by omega) (by omega)).trans rfl)))⟩
  · rintro nM lsM stM I1 L1 R1 S1 hz1 ⟨n, l, rfl, rfl, rfl, rfl, rfl, hl, hnl, hky, hM, fr, frL⟩
    have hb1 : zBB g (-1) s I1 L1 := (zBB_fr hBB (fun c j h => fr c j (by omega) (by omega) (by omega) (by omega) (by omega) (by omega) (by omega) (by omega) (by omega)) (fun c j h => frL c j (by omega) (by omega) (by omega)))
    have hbd1 : I1 g 3 = bD s := hb1.1.2.2.1
    have hn15 : I1 165 15 = bnp s := (fr 165 15 (by omega) (by omega) (by omega) (by omega) (by omega) (by omega) (by omega) (by omega) (by omega)).trans hPB.1
    have hn22 : I1 165 22 = bnn s := (fr 165 22 (by omega) (by omega) (by omega) (by omega) (by omega) (by omega) (by omega) (by omega) (by omega)).trans hPB.2.1
    obtain ⟨⟨m1, m2⟩, ⟨m3, m4⟩, ⟨m5, m6, m7⟩, ⟨m8, m9, m10⟩, m11, m12⟩ := id hM
    refine And.intro (zA_165 hS) (zrdR (v := some g) hg ?_)
    refine And.intro (zDX hdg 0 rfl) (fun v223 e223 r223 => ?_)
    refine And.intro ⟨(by omega), r223⟩ ⟨fun h226 => ?_, fun h226 => ?_⟩
    · refine ⟨((20 - (n + 1)), 99, 0), zlt6 (by omega), [some (zvr (165)), some (zvi (1)), some (zvi ((n + 1))), none, none], ⟨rfl, rfl, rfl, rfl⟩, (n + 1), rfl, rfl, rfl, rfl, rfl, (by omega), (zMK_e hM (by have e9 : l = bD s - 1 := (by omega); rw [e9, ← cuHs_e, cuS_sy hky])), (fun c j h0 h1 h2 h3 h4 h5 h6 h7 h8 => ((fr c j h0 h1 h2 h3 h4 h5 (by omega) (by omega) (by omega)).trans rfl)), (fun c j h0 h1 h2 => ((frL c j (by omega) (by omega) (by omega)).trans rfl))⟩
    · refine And.intro (zA_165 hS) ⟨_, sn_Y_hof1.up (by decide), ?_⟩
      refine ⟨k, q, d, g, ((((cuC (fun p => [cuPd s p]) (bnp s) ++ cuC (cuNt s) n) ++ cuRs s n 1) ++ cuRs s n 0) ++ cuC (fun l => cuH1 s n l (bH s)) l), (bnp s), s, (n : Int), l, D, rfl, hS, hR, hrf, hd, hrc, hdq, hrd, hdd, hg, hdg, hb1, (by first | exact hGd | (clear hQ; grind [xu])), hM, hdis, (Nat.le_trans (cuS_H hnl hky (by omega)) hlen), (by omega), ?_⟩
      intro I232o L232o p232hMK2 p232bfr p232bbfrL
      refine ⟨((20 - n), 30, (10 - (l + 1))), zlt6 (by omega), [some (zvr (165)), some (zvi (1)), some (zvi (n)), some (zvi ((l + 1))), none], ⟨rfl, rfl, rfl, rfl, rfl⟩, n, (l + 1), rfl, rfl, rfl, rfl, rfl, (by omega), (by omega), (by omega), (zMK_e p232hMK2 (by rw [List.append_assoc]; rfl)), (fun c j h0 h1 h2 h3 h4 h5 h6 h7 h8 => ((p232bfr c j h1 h2 h3 h4 h5 (by omega) (by omega) (by omega)).trans ((fr c j h0 h1 h2 h3 h4 h5 (by omega) (by omega) (by omega)).trans rfl))), (fun c j h0 h1 h2 => ((p232bbfrL c j (by omega) (by omega) (by omega)).trans ((frL c j (by omega) (by omega) (by omega)).trans rfl)))⟩)
