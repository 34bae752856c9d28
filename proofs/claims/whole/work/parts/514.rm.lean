/-! rm -/
def T_K_cls : ZT := fun args I L R S Q => ∃ (c : Nat → Int) (n : Nat) (k : Nat) (s0 : TyS) (y : Int) (f : Int) (p : Int), args = [zvr 61, zvi y] ∧ (zSh S) ∧ (zRs R) ∧ (R 61 0 = some 42) ∧ (zRD c n I) ∧ (tOk c n) ∧ (R 61 7 = some k) ∧ (zDy zT2 zF2 k R S) ∧ (43 ≤ k ∧ k ≤ 52) ∧ (I 61 2 = p) ∧ (0 ≤ p ∧ p ≤ 4200) ∧ (tRe c n 1 s0) ∧ (I 61 3 = f) ∧ (f = tyf s0) ∧ (-1 ≤ y ∧ y ≤ 199) ∧ (f = -1 → zKO k c n 1 s0 I L) ∧ (f = -1 → I 61 2 = typ s0 ∧ I 61 4 = tyd s0 ∧ I 61 5 = tyx s0 ∧ y = tyy s0 (tyd s0) ∧ tyn s0 ≠ 0) ∧ ∀ (v : Int) (t : TyS) (I' : ZI) (pl : Int), (tRe c n 1 t) → (I' 61 3 = tyf t) → (tyf t = -1 → zKO k c n 1 t I' L) → (tyf t = -1 → I' 61 4 = tyd t ∧ I' 61 5 = tyx t ∧ v = tyy t (tyd t) ∧ tyn t ≠ 0 ∧ ((tyd t = 0 ∧ v = -1 ∧ I' 61 2 = typ t) ∨ (tyd t ≠ 0 ∧ 0 ≤ v ∧ I' 61 2 = tSk tBk c n (typ t) ∧ c (tSk tBk c n (typ t)) = 40))) → (-1 ≤ v ∧ v ≤ 199) → (tyf t = -1 → tyf s0 = -1 ∧ typ s0 ≤ typ t) → (∀ c j : Nat, ¬ (c = 61 ∧ j = 2) → ¬ (c = 61 ∧ j = 3) → ¬ (c = 61 ∧ j = 4) → I' c j = I c j) → (I' 61 2 = pl) → (0 ≤ pl ∧ pl ≤ 4200) → Q (some (zvi (v))) I' L R S
theorem sn_K_cls : ZSnd 3 9 1 T_K_cls := ZSnd.loops (zT9_1 2) (by
  rintro args I L R S Q hz ⟨c, n, k, s0, y, f, p, rfl, hS, hR, htx, hX, hc, hob, hD, hk, hp, hpb0, hre, hfv, hfs, hyb, hko, hlin, hQ⟩
  obtain ⟨x1, x2⟩ := id hX
  have hn4 := hc.1
  have hk1 := hk.1
  have hk2 := hk.2
  refine ⟨[4], fun nM tM lsM stM I1 L1 R1 S1 => match tM with
      | 4 => ∃ (s : TyS) (y : Int) (f : Int) (z : Nat) (pl : Int), nM = ((5000 - z), 0, 0) ∧ lsM = [some (zvr (61)), none, some (zvi (y)), some (zvi (z))] ∧ stM = [] ∧ L1 = L ∧ R1 = R ∧ S1 = S ∧ (z ≤ 4002) ∧ (tRe c n 1 s) ∧ (I1 61 3 = f) ∧ (f = tyf s) ∧ (-1 ≤ y ∧ y ≤ 199) ∧ (-1 ≤ f ∧ f ≤ 9000) ∧ (I1 61 2 = pl) ∧ (0 ≤ pl ∧ pl ≤ 4200) ∧ (f = -1 → zKO k c n 1 s I1 L) ∧ (f = -1 → I1 61 2 = typ s ∧ I1 61 4 = tyd s ∧ I1 61 5 = tyx s ∧ y = tyy s (tyd s) ∧ tyn s ≠ 0) ∧ (f = -1 → z ≤ typ s) ∧ (f = -1 → tyf s0 = -1 ∧ typ s0 ≤ typ s) ∧ (∀ c j : Nat, ¬ (c = 61 ∧ j = 2) → ¬ (c = 61 ∧ j = 3) → ¬ (c = 61 ∧ j = 4) → I1 c j = I c j)
      | _ => False, rfl, ?_, ⟨?_, True.intro⟩⟩
  · refine ⟨((5000 - (0 : Nat)), 0, 0), [some (zvr (61)), none, some (zvi (y)), some (zvi ((0 : Nat)))], ⟨rfl, rfl, rfl, rfl⟩, s0, y, f, 0, p, rfl, rfl, rfl, rfl, rfl, rfl, (by omega), (by clear hQ; grind [xu]), hfv, (by omega), (by omega), (by have w := tRe_b hc (by decide) hre; omega), hp, (by omega), (by clear hQ; grind [xu]), (by clear hQ; grind [xu]), (by clear hQ; grind [xu]), (fun h9 => ⟨by omega, Nat.le_refl _⟩), (fun c j h0 h1 h2 => rfl)⟩
  · rintro nM lsM stM I1 L1 R1 S1 hz1 ⟨s, y, f, z, pl, rfl, rfl, rfl, rfl, rfl, rfl, hz, hre, hfv, hfs, hyb, hfb, hpl1, hpb, hko, hlin, hzp, hmo, fr⟩
    have sg : f = -1 → tyg c n 1 s := fun h => tRe_g hc (Nat.le_refl 1) hre (by omega)
    have sl : f = -1 → typ s ≤ n ∧ tyn s ≤ 200 ∧ tyd s ≤ 100 := fun h => ⟨(sg h).1.2.2.2.1, (sg h).1.1, (sg h).1.2.2.2.2.2.1 rfl⟩
    have sy : f = -1 → _ := fun h => tyz_b (sg h) (Nat.le_refl (tyd s))
    have sb := tSk_b (P := tBk) (p := typ s) hc tBk_no
    have cp := tOk_b (p := (tSk tBk c n (typ s))) hc
    refine And.intro (zA_61 hS) (zrd (v := n) ((fr 61 1 (by omega) (by omega) (by omega)).trans x1) ?_)
    refine And.intro ⟨(by omega), (by omega)⟩ ⟨fun h9 => ?_, fun h9 => ?_⟩
    · refine hQ _ _ _ (pl : Int) hre (by first | exact hfv.trans hfs | exact (rfl.trans (hfv.trans hfs))) (by first | exact (fun h9 => hko (by omega)) | exact (fun h9 => zKO_fr (hko (by omega)) (fun x j h => (p26bfr x j (by omega)).trans rfl) (fun x j h => rfl))) ?_ (by omega) (fun h9 => hmo (by omega)) (fun c j h0 h1 h2 => ((fr c j h0 h1 h2).trans rfl)) hpl1 (by first | omega | (have w3 := sl (by omega); omega))
      · intro h9
        have w := hlin (by omega)
        have w2 := sy (by omega)
        have w3 := sl (by omega)
        have w4 := hzp (by omega)
        first
        | exact ⟨g26, g26bbbbb, w.2.2.2.1, w.2.2.2.2, Or.inr ⟨by omega, by omega, p26hpl, by omega⟩⟩
        | (rcases w2 with w2 | w2
           · exact ⟨w.2.1, w.2.2.1, w.2.2.2.1, w.2.2.2.2, Or.inl ⟨w2.1, by omega, w.1⟩⟩
           · exfalso; omega)
    · refine And.intro (zA_61 hS) (zrd (v := f) hfv ?_)
      refine And.intro ⟨(by omega), (zRb rfl)⟩ ⟨fun h17 => ?_, fun h17 => ?_⟩
      · refine hQ _ _ _ (pl : Int) hre (by first | exact hfv.trans hfs | exact (rfl.trans (hfv.trans hfs))) (by first | exact (fun h9 => hko (by omega)) | exact (fun h9 => zKO_fr (hko (by omega)) (fun x j h => (p26bfr x j (by omega)).trans rfl) (fun x j h => rfl))) ?_ (by omega) (fun h9 => hmo (by omega)) (fun c j h0 h1 h2 => ((fr c j h0 h1 h2).trans rfl)) hpl1 (by first | omega | (have w3 := sl (by omega); omega))
        · intro h9
          have w := hlin (by omega)
          have w2 := sy (by omega)
          have w3 := sl (by omega)
          have w4 := hzp (by omega)
          first
          | exact ⟨g26, g26bbbbb, w.2.2.2.1, w.2.2.2.2, Or.inr ⟨by omega, by omega, p26hpl, by omega⟩⟩
          | (rcases w2 with w2 | w2
             · exact ⟨w.2.1, w.2.2.1, w.2.2.2.1, w.2.2.2.2, Or.inl ⟨w2.1, by omega, w.1⟩⟩
             · exfalso; omega)
      · refine And.intro ⟨(by omega), (zRb rfl)⟩ ⟨fun h22 => ?_, fun h22 => ?_⟩
        · refine hQ _ _ _ (pl : Int) hre (by first | exact hfv.trans hfs | exact (rfl.trans (hfv.trans hfs))) (by first | exact (fun h9 => hko (by omega)) | exact (fun h9 => zKO_fr (hko (by omega)) (fun x j h => (p26bfr x j (by omega)).trans rfl) (fun x j h => rfl))) ?_ (by omega) (fun h9 => hmo (by omega)) (fun c j h0 h1 h2 => ((fr c j h0 h1 h2).trans rfl)) hpl1 (by first | omega | (have w3 := sl (by omega); omega))
          · intro h9
            have w := hlin (by omega)
            have w2 := sy (by omega)
            have w3 := sl (by omega)
            have w4 := hzp (by omega)
            first
            | exact ⟨g26, g26bbbbb, w.2.2.2.1, w.2.2.2.2, Or.inr ⟨by omega, by omega, p26hpl, by omega⟩⟩
            | (rcases w2 with w2 | w2
               · exact ⟨w.2.1, w.2.2.1, w.2.2.2.1, w.2.2.2.2, Or.inl ⟨w2.1, by omega, w.1⟩⟩
               · exfalso; omega)
        · refine And.intro (zA_61 hS) ⟨_, sn_K_skB.up (by decide), ?_⟩
          refine ⟨c, n, (typ s), rfl, hS, hR, htx, (by first | exact (zRD_fr hX (fun c j h => ((fr c j (by omega) (by omega) (by omega)).trans rfl))) | (clear hQ; grind [xu])), (by first | exact hc | (clear hQ; grind [xu])), (hlin (by omega)).1, (by have w := sl (by omega); omega), ?_⟩
          intro I26o p26hpl p26bfr
          have g26 : I26o 61 4 = tyd s := (((p26bfr 61 _ (by omega)).trans rfl).trans (hlin (by omega)).2.1)
          have g26b : I26o k 0 = tyn s := (((p26bfr k _ (by omega)).trans rfl).trans (hko (by omega)).1)
          have g26bb : 1 ≤ tyd s ∧ tyd s ≤ 100 ∧ y = tyy s (tyd s) := (by have w := sy (by omega); have w2 := hlin (by omega); have w3 := sl (by omega); rcases w with w | w; (exfalso; omega); exact ⟨by omega, by omega, by omega⟩)
          have g26bbb : 0 ≤ y ∧ y + 1 ≤ tyn s ∧ tyn s ≤ 200 ∧ typ s ≤ n ∧ z ≤ typ s := (by have w := sy (by omega); have w2 := hlin (by omega); have w3 := sl (by omega); have w4 := hzp (by omega); rcases w with w | w; (exfalso; omega); exact ⟨by omega, by omega, by omega, by omega, by omega⟩)
          have g26bbbb : tyr s (tyy s (tyd s)).toNat 1 = tyy s (tyd s - 1) ∧ -1 ≤ tyy s (tyd s - 1) ∧ tyy s (tyd s - 1) + 1 ≤ tyn s := (by have w := sy (by omega); have w2 := tyz_b (d := tyd s - 1) (sg (by omega)) (by omega); rcases w with w | w; (exfalso; omega); exact ⟨w.2.2.2.2.2, by rcases w2 with w2 | w2 <;> omega, by rcases w2 with w2 | w2 <;> omega⟩)
          have g26bbbbb : I26o 61 5 = tyx s := (((p26bfr 61 _ (by omega)).trans rfl).trans (hlin (by omega)).2.2.1)
          refine And.intro (zA_61 hS) ⟨_, sn_K_peek.up (by decide), ?_⟩
          refine ⟨c, n, (tSk tBk c n (typ s)), rfl, hS, hR, htx, (by first | exact (zRD_fr hX (fun c j h => ((p26bfr c j (by omega)).trans ((fr c j (by omega) (by omega) (by omega)).trans rfl)))) | (clear hQ; grind [xu])), (by first | exact hc | (clear hQ; grind [xu])), (Eq.trans (b := ((tSk tBk c n (typ s)) : Int)) p26hpl (by omega)), (by omega), ?_⟩
          intro v30o p30hv p30bhv2
          refine And.intro ⟨(by omega), (zRb rfl)⟩ ⟨fun h35 => ?_, fun h35 => ?_⟩
          · refine And.intro (zA_61 hS) ⟨_, sn_K_peek.up (by decide), ?_⟩
            refine ⟨c, n, (tSk tBk c n (typ s)), rfl, hS, hR, htx, (by first | exact (zRD_fr hX (fun c j h => ((p26bfr c j (by omega)).trans ((fr c j (by omega) (by omega) (by omega)).trans rfl)))) | (clear hQ; grind [xu])), (by first | exact hc | (clear hQ; grind [xu])), (Eq.trans (b := ((tSk tBk c n (typ s)) : Int)) p26hpl (by omega)), (by omega), ?_⟩
            intro v41o p41hv p41bhv2
            refine And.intro ⟨(by omega), (zRb rfl)⟩ ⟨fun h46 => ?_, fun h46 => ?_⟩
            · refine And.intro (zA_61 hS) (zrd (v := (tSk tBk c n (typ s))) p26hpl ?_)
              refine And.intro (zA_61 hS) (Exists.intro _ (And.intro (zinl_ok (zT9_2 1)) (And.intro rfl ?_)))
              refine And.intro (zA_61 hS) (zrd (v := f) ((p26bfr 61 3 (by omega)).trans hfv) ?_)
              refine And.intro ⟨(by omega), (zRb rfl)⟩ ⟨(fun h5_86 => False.elim (by omega)), fun h5_86 => ?_⟩
              refine And.intro (zA_61 hS) ⟨_, (zWi (by omega)), ?_⟩
              refine ⟨((5000 - (z + 1)), 0, 0), zlt6 (by omega), [some (zvr (61)), none, some (zvi (y)), some (zvi ((z + 1)))], ⟨rfl, rfl, rfl, rfl⟩, (tyA c n 1 s), y, (tyf (tyA c n 1 s)), (z + 1), (tSk tBk c n (typ s)), rfl, rfl, rfl, rfl, rfl, rfl, (by omega), (tRe_s hre (tyE_n (by omega) (Or.inl (by omega)))), ?_, rfl, (by omega), (tRe_b hc (by decide) (tRe_s hre (tyE_n (by omega) (Or.inl (by omega))))), p26hpl, (by have w3 := sl (by omega); omega), ?_, ?_, ?_, ?_, (fun c j h0 h1 h2 => (zxcj h1 ((p26bfr c j h0).trans ((fr c j h0 h1 h2).trans rfl))))⟩
              · first
                | (rw [tyA_c (c := c) (n := n) (s := s) (by omega) (by omega)]
                   show _ = (-1 : Int)
                   exact (zxcj (by omega) ((p26bfr 61 _ (by omega)).trans rfl)).trans (hfv.trans (by omega)))
                | (rw [tyA_f (c := c) (n := n) (s := s) (by omega) (Or.inl (by omega))]
                   exact zxe)
              · intro h9
                first
                | (rw [tyA_c (c := c) (n := n) (s := s) (by omega) (by omega)]
                   exact zKO_fr (zKO_C (hko (by omega)) (by omega)) (fun x j h => zxcj (by omega) (zxcj (by omega) ((p26bfr x j (by omega)).trans rfl))) (fun x j h => rfl))
                | (exfalso
                   rw [tyA_f (c := c) (n := n) (s := s) (by omega) (Or.inl (by omega))] at h9
                   exact tyF_f h9)
              · intro h9
                first
                | (rw [tyA_c (c := c) (n := n) (s := s) (by omega) (by omega)]
                   exact ⟨(zxs (by omega) zxe).trans (show _ = (((tSk tBk c n (typ s)) + 1 : Nat) : Int) by omega), zxe.trans (show _ = ((tyd s - 1 : Nat) : Int) by omega), zxs (by omega) (zxs (by omega) g26bbbbb), (show _ = tyy s (tyd s - 1) by omega), (show tyn s ≠ 0 by omega)⟩)
                | (exfalso
                   rw [tyA_f (c := c) (n := n) (s := s) (by omega) (Or.inl (by omega))] at h9
                   exact tyF_f h9)
              · intro h9
                first
                | (rw [tyA_c (c := c) (n := n) (s := s) (by omega) (by omega)]
                   show z + 1 ≤ (tSk tBk c n (typ s)) + 1
                   omega)
                | (exfalso
                   rw [tyA_f (c := c) (n := n) (s := s) (by omega) (Or.inl (by omega))] at h9
                   exact tyF_f h9)
              · intro h9
                first
                | (rw [tyA_c (c := c) (n := n) (s := s) (by omega) (by omega)]
                   have w9 := hmo (by omega)
                   refine ⟨w9.1, ?_⟩
                   show typ s0 ≤ (tSk tBk c n (typ s)) + 1
                   omega)
                | (exfalso
                   rw [tyA_f (c := c) (n := n) (s := s) (by omega) (Or.inl (by omega))] at h9
                   exact tyF_f h9)
            · refine And.intro (zA_61 hS) (zrd (v := (tSk tBk c n (typ s))) p26hpl ?_)
              refine And.intro (zA_61 hS) ⟨_, (zWi (by omega)), ?_⟩
              refine And.intro (zA_61 hS) (zrd (v := (tyd s)) g26 ?_)
              refine And.intro (zA_61 hS) ⟨_, (zWi (by omega)), ?_⟩
              refine And.intro (zA_61 hS) (zrdR (v := some k) hob ?_)
              refine And.intro (zDX hD 0 rfl) (Exists.intro _ (And.intro (zinl_ok (zT2_20 1)) (And.intro rfl ?_)))
              refine And.intro (zDX hD 0 rfl) (Exists.intro _ (And.intro (zinl_ok (zT2_14 0)) (And.intro rfl ?_)))
              refine And.intro (by omega) ⟨(fun h1_74_2 => False.elim (by omega)), fun h1_74_2 => ?_⟩
              refine And.intro (zDX hD 0 rfl) (zrd (v := (tyn s)) (zxu (by omega) (zxu (by omega) g26b)) ?_)
              refine And.intro ⟨(by omega), (by omega)⟩ ⟨(fun h9_74_2 => False.elim (by omega)), fun h9_74_2 => ?_⟩
              refine And.intro (Or.inr rfl) ?_
              refine And.intro (zRb rfl) (zbf rfl ?_)
              refine And.intro (zDX hD 0 rfl) (zrdR (v := some (k + 2)) (zDR hD 1 rfl) ?_)
              refine And.intro (zDP hD 2 rfl rfl (by omega) (by omega)) (fun v13_74 e13_74 r13_74 => ?_)
              have f13_74 : v13_74 = tyr s (tyy s (tyd s)).toNat 1 := (e13_74.trans (zxu (by omega) (zxu (by omega) ((congrArg (I26o (k + 2)) (show _ = (tyy s (tyd s)).toNat by omega)).trans ((p26bfr (k + 2) _ (by omega)).trans ((hko (by omega)).2.2.2 (tyy s (tyd s)).toNat (by omega)).1.2.1)))))
              refine ⟨((5000 - (z + 1)), 0, 0), zlt6 (by omega), [some (zvr (61)), none, some (zvi (v13_74)), some (zvi ((z + 1)))], ⟨rfl, rfl, rfl, rfl⟩, (tyA c n 1 s), v13_74, (tyf (tyA c n 1 s)), (z + 1), ((tSk tBk c n (typ s)) + 1), rfl, rfl, rfl, rfl, rfl, rfl, (by omega), (tRe_s hre (tyE_n (by omega) (Or.inl (by omega)))), ?_, rfl, (by omega), (tRe_b hc (by decide) (tRe_s hre (tyE_n (by omega) (Or.inl (by omega))))), rfl, (by have w3 := sl (by omega); omega), ?_, ?_, ?_, ?_, (fun c j h0 h1 h2 => (zxcj h2 (zxcj h0 ((p26bfr c j h0).trans ((fr c j h0 h1 h2).trans rfl)))))⟩
              · first
                | (rw [tyA_c (c := c) (n := n) (s := s) (by omega) (by omega)]
                   show _ = (-1 : Int)
                   exact (zxcj (by omega) (zxcj (by omega) ((p26bfr 61 _ (by omega)).trans rfl))).trans (hfv.trans (by omega)))
                | (rw [tyA_f (c := c) (n := n) (s := s) (by omega) (Or.inl (by omega))]
                   exact zxe)
              · intro h9
                first
                | (rw [tyA_c (c := c) (n := n) (s := s) (by omega) (by omega)]
                   exact zKO_fr (zKO_C (hko (by omega)) (by omega)) (fun x j h => zxcj (by omega) (zxcj (by omega) ((p26bfr x j (by omega)).trans rfl))) (fun x j h => rfl))
                | (exfalso
                   rw [tyA_f (c := c) (n := n) (s := s) (by omega) (Or.inl (by omega))] at h9
                   exact tyF_f h9)
              · intro h9
                first
                | (rw [tyA_c (c := c) (n := n) (s := s) (by omega) (by omega)]
                   exact ⟨(zxs (by omega) zxe).trans (show _ = (((tSk tBk c n (typ s)) + 1 : Nat) : Int) by omega), zxe.trans (show _ = ((tyd s - 1 : Nat) : Int) by omega), zxs (by omega) (zxs (by omega) g26bbbbb), (show _ = tyy s (tyd s - 1) by omega), (show tyn s ≠ 0 by omega)⟩)
                | (exfalso
                   rw [tyA_f (c := c) (n := n) (s := s) (by omega) (Or.inl (by omega))] at h9
                   exact tyF_f h9)
              · intro h9
                first
                | (rw [tyA_c (c := c) (n := n) (s := s) (by omega) (by omega)]
                   show z + 1 ≤ (tSk tBk c n (typ s)) + 1
                   omega)
                | (exfalso
                   rw [tyA_f (c := c) (n := n) (s := s) (by omega) (Or.inl (by omega))] at h9
                   exact tyF_f h9)
              · intro h9
                first
                | (rw [tyA_c (c := c) (n := n) (s := s) (by omega) (by omega)]
                   have w9 := hmo (by omega)
                   refine ⟨w9.1, ?_⟩
                   show typ s0 ≤ (tSk tBk c n (typ s)) + 1
                   omega)
                | (exfalso
                   rw [tyA_f (c := c) (n := n) (s := s) (by omega) (Or.inl (by omega))] at h9
                   exact tyF_f h9)
          · refine hQ _ _ _ ((tSk tBk c n (typ s)) : Int) hre (by first | exact hfv.trans hfs | exact (((p26bfr 61 _ (by omega)).trans rfl).trans (hfv.trans hfs))) (by first | exact (fun h9 => hko (by omega)) | exact (fun h9 => zKO_fr (hko (by omega)) (fun x j h => (p26bfr x j (by omega)).trans rfl) (fun x j h => rfl))) ?_ (by omega) (fun h9 => hmo (by omega)) (fun c j h0 h1 h2 => ((p26bfr c j h0).trans ((fr c j h0 h1 h2).trans rfl))) p26hpl (by first | omega | (have w3 := sl (by omega); omega))
            · intro h9
              have w := hlin (by omega)
              have w2 := sy (by omega)
              have w3 := sl (by omega)
              have w4 := hzp (by omega)
              first
              | exact ⟨g26, g26bbbbb, w.2.2.2.1, w.2.2.2.2, Or.inr ⟨by omega, by omega, p26hpl, by omega⟩⟩
              | (rcases w2 with w2 | w2
                 · exact ⟨w.2.1, w.2.2.1, w.2.2.2.1, w.2.2.2.2, Or.inl ⟨w2.1, by omega, w.1⟩⟩
                 · exfalso; omega))
def T_K_rls : ZT := fun args I L R S Q => ∃ (c : Nat → Int) (n : Nat) (k : Nat), args = [zvr 61] ∧ (zSh S) ∧ (zRs R) ∧ (zSt I L) ∧ (R 61 0 = some 42) ∧ (zRD c n I) ∧ (tOk c n) ∧ (R 61 7 = some k) ∧ (zDy zT2 zF2 k R S) ∧ (43 ≤ k ∧ k ≤ 52) ∧ (I 61 2 = 0) ∧ (I 61 3 = -1) ∧ (I 61 6 = (1 : Nat)) ∧ (I 61 4 = 0) ∧ (I 61 5 = 1) ∧ (I k 0 = 0) ∧ (I k 2 = 0) ∧ (I k 10 = 0) ∧ ∀ (I' : ZI) (L' : ZI), (zKF k c n 1 I' L') → (∀ c j : Nat, ¬ (c = 61 ∧ j = 2) → ¬ (c = 61 ∧ j = 3) → ¬ (c = 61 ∧ j = 4) → ¬ (c = 61 ∧ j = 5) → ¬ (c = k ∧ j = 0) → ¬ (c = k ∧ j = 2) → ¬ (c = k ∧ j = 10) → ¬ c = k + 1 → ¬ c = k + 2 → ¬ c = k + 3 → ¬ c = k + 5 → ¬ c = k + 6 → ¬ c = k + 7 → I' c j = I c j) → (∀ c j : Nat, ¬ c = k + 4 → L' c j = L c j) → Q none I' L' R S
theorem sn_K_rls : ZSnd 6 9 19 T_K_rls := ZSnd.loops (zT9_19 5) (by
  rintro args I L R S Q hz ⟨c, n, k, rfl, hS, hR, hT, htx, hX, hc, hob, hD, hk, hp, hf0, hnb, hod, hxv, h0, h2, hcc0, hQ⟩
  obtain ⟨x1, x2⟩ := id hX
  have hn4 := hc.1
  have hk1 := hk.1
  have hk2 := hk.2
  have sb0 := tSk_b (P := tBk) (p := 0) hc tBk_no
  have skb : ∀ q : Nat, q ≤ 4200 → tSk tBk c n q ≤ 4200 := fun q h => by have w := tSk_b (P := tBk) (p := q) hc tBk_no; omega
  refine ⟨[25], fun nM tM lsM stM I1 L1 R1 S1 => match tM with
      | 25 => ∃ (s : TyS) (y : Int) (f : Int) (z : Nat) (pl : Int), nM = ((5000 - z), 0, 0) ∧ lsM = [some (zvr (61)), some (zvi (y)), some (zvi (z))] ∧ stM = [] ∧ R1 = R ∧ S1 = S ∧ (z ≤ 4002) ∧ (tRe c n 1 s) ∧ (I1 61 3 = f) ∧ (f = tyf s) ∧ (-1 ≤ y ∧ y ≤ 199) ∧ (-1 ≤ f ∧ f ≤ 9000) ∧ (I1 61 2 = pl) ∧ (0 ≤ pl ∧ pl ≤ 4200) ∧ (f = -1 → zKO k c n 1 s I1 L1) ∧ (f = -1 → I1 61 2 = tSk tBk c n (typ s) ∧ c (tSk tBk c n (typ s)) = 40 ∧ I1 61 4 = tyd s ∧ I1 61 5 = tyx s ∧ y = tyy s (tyd s) ∧ (tyd s = 0 → tyn s = 0) ∧ z ≤ typ s) ∧ (∀ c j : Nat, ¬ (c = 61 ∧ j = 2) → ¬ (c = 61 ∧ j = 3) → ¬ (c = 61 ∧ j = 4) → ¬ (c = 61 ∧ j = 5) → ¬ (c = k ∧ j = 0) → ¬ (c = k ∧ j = 2) → ¬ (c = k ∧ j = 10) → ¬ c = k + 1 → ¬ c = k + 2 → ¬ c = k + 3 → ¬ c = k + 5 → ¬ c = k + 6 → ¬ c = k + 7 → I1 c j = I c j) ∧ (∀ c j : Nat, ¬ c = k + 4 → L1 c j = L c j)
      | _ => False, rfl, ?_, ⟨?_, True.intro⟩⟩
  · refine And.intro (zA_61 hS) ⟨_, sn_K_skB.up (by decide), ?_⟩
    refine ⟨c, n, 0, rfl, hS, hR, htx, (by first | exact (zRD_fr hX (fun c j h => rfl)) | (clear hQ; grind [xu])), (by first | exact hc | (clear hQ; grind [xu])), hp, (by omega), ?_⟩
    intro I1o p1hpl p1bfr
    refine And.intro (zA_61 hS) ⟨_, sn_K_peek.up (by decide), ?_⟩
    refine ⟨c, n, (tSk tBk c n 0), rfl, hS, hR, htx, (by first | exact (zRD_fr hX (fun c j h => ((p1bfr c j (by omega)).trans rfl))) | (clear hQ; grind [xu])), (by first | exact hc | (clear hQ; grind [xu])), (Eq.trans (b := ((tSk tBk c n 0) : Int)) p1hpl (by omega)), (by omega), ?_⟩
    intro v5o p5hv p5bhv2
    refine And.intro ⟨(by omega), (zRb rfl)⟩ ⟨fun h10 => ?_, fun h10 => ?_⟩
    · refine ⟨((5000 - (0 : Nat)), 0, 0), [some (zvr (61)), some (zvi (((-1) : Int))), some (zvi ((0 : Nat)))], ⟨rfl, (congrArg (fun z => some (zvi z)) (by omega)), rfl, rfl⟩, (tys0 c n), (-1), (-1), 0, (tSk tBk c n 0), rfl, rfl, rfl, rfl, rfl, (by omega), tys0_r, ((p1bfr 61 3 (by omega)).trans hf0), ?_, (by omega), (by omega), p1hpl, (by omega), ?_, ?_, (fun c j h0 h1 h2 h3 h4 h5 h6 h7 h8 h9 h10 h11 h12 => ((p1bfr c j h0).trans rfl)), (fun c j h0 => rfl)⟩
      · first
        | (rw [tys0_t (c := c) (n := n) (by omega)]
           rfl)
        | (rw [tys0_f (c := c) (n := n) (by omega)]
           rfl)
      · intro h9
        first
        | (exfalso; omega)
        | (rw [tys0_t (c := c) (n := n) (by omega)]
           exact zKO_0 (((p1bfr k _ (by omega)).trans rfl).trans h0) (((p1bfr k _ (by omega)).trans rfl).trans h2) (((p1bfr k _ (by omega)).trans rfl).trans hcc0))
      · intro h9
        first
        | (exfalso; omega)
        | (rw [tys0_t (c := c) (n := n) (by omega)]
           exact ⟨p1hpl, (by show c (tSk tBk c n 0) = 40; omega), ((p1bfr 61 _ (by omega)).trans rfl).trans hod, ((p1bfr 61 _ (by omega)).trans rfl).trans hxv, rfl, fun _ => rfl, Nat.zero_le _⟩)
    · refine And.intro (zA_61 hS) (zrd (v := (tSk tBk c n 0)) p1hpl ?_)
      refine And.intro (zA_61 hS) (Exists.intro _ (And.intro (zinl_ok (zT9_2 4)) (And.intro rfl ?_)))
      refine And.intro (zA_61 hS) (zrd (v := (-1)) ((p1bfr 61 3 (by omega)).trans hf0) ?_)
      refine And.intro ⟨(zRb rfl), (zRb rfl)⟩ (zbf rfl ?_)
      refine And.intro (zA_61 hS) ⟨_, (zWi (by omega)), ?_⟩
      refine ⟨((5000 - (0 : Nat)), 0, 0), [some (zvr (61)), some (zvi (((-1) : Int))), some (zvi ((0 : Nat)))], ⟨rfl, (congrArg (fun z => some (zvi z)) (by omega)), rfl, rfl⟩, (tys0 c n), (-1), (tSk tBk c n 0), 0, (tSk tBk c n 0), rfl, rfl, rfl, rfl, rfl, (by omega), tys0_r, rfl, ?_, (by omega), (by omega), p1hpl, (by omega), ?_, ?_, (fun c j h0 h1 h2 h3 h4 h5 h6 h7 h8 h9 h10 h11 h12 => (zxcj h1 ((p1bfr c j h0).trans rfl))), (fun c j h0 => rfl)⟩
      · first
        | (rw [tys0_t (c := c) (n := n) (by omega)]
           rfl)
        | (rw [tys0_f (c := c) (n := n) (by omega)]
           rfl)
      · intro h9
        first
        | (exfalso; omega)
        | (rw [tys0_t (c := c) (n := n) (by omega)]
           exact zKO_0 ((zxcj (by omega) ((p1bfr k _ (by omega)).trans rfl)).trans h0) ((zxcj (by omega) ((p1bfr k _ (by omega)).trans rfl)).trans h2) ((zxcj (by omega) ((p1bfr k _ (by omega)).trans rfl)).trans hcc0))
      · intro h9
        first
        | (exfalso; omega)
        | (rw [tys0_t (c := c) (n := n) (by omega)]
           exact ⟨p1hpl, (by show c (tSk tBk c n 0) = 40; omega), (zxcj (by omega) ((p1bfr 61 _ (by omega)).trans rfl)).trans hod, (zxcj (by omega) ((p1bfr 61 _ (by omega)).trans rfl)).trans hxv, rfl, fun _ => rfl, Nat.zero_le _⟩)
  · rintro nM lsM stM I1 L1 R1 S1 hz1 ⟨s, y, f, z, pl, rfl, rfl, rfl, rfl, rfl, hz, hre, hfv, hfs, hyb, hfb, hpl1, hpb, hko, hlin, fr, frL⟩
    have sg : f = -1 → tyg c n 1 s := fun h => tRe_g hc (Nat.le_refl 1) hre (by omega)
    have sl : f = -1 → typ s ≤ n ∧ tyn s ≤ 200 ∧ tyd s ≤ 100 := fun h => ⟨(sg h).1.2.2.2.1, (sg h).1.1, (sg h).1.2.2.2.2.2.1 rfl⟩
    have eA : f = -1 → tyA c n 1 s = tyL c n s (tSk tBk c n (typ s)) := fun h => tyA_l (hlin h).2.1
    have sb := tSk_b (P := tBk) (p := typ s) hc tBk_no
    refine And.intro (zA_61 hS) (zrd (v := n) ((fr 61 1 (by omega) (by omega) (by omega) (by omega) (by omega) (by omega) (by omega) (by omega) (by omega) (by omega) (by omega) (by omega) (by omega)).trans x1) ?_)
    refine And.intro ⟨(by omega), (by omega)⟩ ⟨fun h30 => ?_, fun h30 => ?_⟩
    · refine And.intro (zA_61 hS) ⟨_, sn_K_skB.up (by decide), ?_⟩
      refine ⟨c, n, pl.toNat, rfl, hS, hR, htx, (by first | exact (zRD_fr hX (fun c j h => ((fr c j (by omega) (by omega) (by omega) (by omega) (by omega) (by omega) (by omega) (by omega) (by omega) (by omega) (by omega) (by omega) (by omega)).trans rfl))) | (clear hQ; grind [xu])), (by first | exact hc | (clear hQ; grind [xu])), (by omega), (by omega), ?_⟩
      intro I66o p66hpl p66bfr
      have g66 : 0 ≤ I66o 61 2 ∧ I66o 61 2 ≤ 4200 := (by rw [p66hpl]; exact ⟨Int.natCast_nonneg _, Int.ofNat_le.mpr (skb _ (by omega))⟩)
      refine And.intro (zA_61 hS) (zrd (v := (tSk tBk c n (pl.toNat))) p66hpl ?_)
      refine And.intro (zA_61 hS) (zrd (v := n) ((p66bfr 61 1 (by omega)).trans ((fr 61 1 (by omega) (by omega) (by omega) (by omega) (by omega) (by omega) (by omega) (by omega) (by omega) (by omega) (by omega) (by omega) (by omega)).trans x1)) ?_)
      refine And.intro ⟨(by omega), (by omega)⟩ ⟨fun h77 => ?_, fun h77 => ?_⟩
      · refine hQ _ _ ?_ (fun c j h0 h1 h2 h3 h4 h5 h6 h7 h8 h9 h10 h11 h12 => ((p66bfr c j h0).trans ((fr c j h0 h1 h2 h3 h4 h5 h6 h7 h8 h9 h10 h11 h12).trans rfl))) (fun c j h0 => ((frL c j h0).trans rfl))
        · first
          | (by_cases h8 : tyf t47o = -1
             · have w := p47bbbhl2 h8
               have ep : pl47o.toNat = typ t47o := by omega
               have eP : tSk tBk c n pl47o.toNat = tSk tBk c n (typ t47o) := by rw [ep]
               have he : tyE n 1 t47o := Or.inr (Or.inl ⟨rfl, by omega, w.2.2.2.1⟩)
               first
               | exact ⟨t47o, p47hre2, he, zxe.trans (by rw [tyZ_b h8 (by omega)]; omega), fun h9 => by exfalso; rw [tyZ_b h8 (by omega)] at h9; omega⟩
               | exact ⟨t47o, p47hre2, he, ((p66bfr 61 3 (by omega)).trans p47bhf).trans (by rw [tyZ_e h8 (by omega)]; exact h8), fun h9 => ⟨zKO_fr (p47bbhko2 h8) (fun x j h => (p66bfr x j (by omega)).trans rfl) (fun x j h => rfl), (p66bfr 61 5 (by omega)).trans w.2.1⟩⟩
               | (exfalso; omega)
             · first
               | exact ⟨t47o, p47hre2, Or.inl h8, ((p66bfr 61 3 (by omega)).trans p47bhf).trans (tyZ_f h8).symm, fun h9 => absurd ((tyZ_f h8).symm.trans h9) h8⟩
               | (exfalso; omega))
          | (have h8 : tyf s ≠ -1 := fun w => by
               have w1 := hlin (by omega)
               have w2 := sl (by omega)
               omega
             first
             | exact ⟨s, hre, Or.inl h8, ((p66bfr 61 3 (by omega)).trans (hfv.trans hfs)).trans (tyZ_f h8).symm, fun h9 => absurd ((tyZ_f h8).symm.trans h9) h8⟩
             | (exfalso; omega))
      · refine And.intro (zA_61 hS) (zrd (v := (tSk tBk c n (pl.toNat))) p66hpl ?_)
        refine And.intro (zA_61 hS) (Exists.intro _ (And.intro (zinl_ok (zT9_2 4)) (And.intro rfl ?_)))
        refine And.intro (zA_61 hS) (zrd (v := f) ((p66bfr 61 3 (by omega)).trans hfv) ?_)
        refine And.intro ⟨(by omega), (zRb rfl)⟩ ⟨fun h5_85 => ?_, fun h5_85 => ?_⟩
        · refine hQ _ _ ?_ (fun c j h0 h1 h2 h3 h4 h5 h6 h7 h8 h9 h10 h11 h12 => ((p66bfr c j h0).trans ((fr c j h0 h1 h2 h3 h4 h5 h6 h7 h8 h9 h10 h11 h12).trans rfl))) (fun c j h0 => ((frL c j h0).trans rfl))
          · first
            | (by_cases h8 : tyf t47o = -1
               · have w := p47bbbhl2 h8
                 have ep : pl47o.toNat = typ t47o := by omega
                 have eP : tSk tBk c n pl47o.toNat = tSk tBk c n (typ t47o) := by rw [ep]
                 have he : tyE n 1 t47o := Or.inr (Or.inl ⟨rfl, by omega, w.2.2.2.1⟩)
                 first
                 | exact ⟨t47o, p47hre2, he, zxe.trans (by rw [tyZ_b h8 (by omega)]; omega), fun h9 => by exfalso; rw [tyZ_b h8 (by omega)] at h9; omega⟩
                 | exact ⟨t47o, p47hre2, he, ((p66bfr 61 3 (by omega)).trans p47bhf).trans (by rw [tyZ_e h8 (by omega)]; exact h8), fun h9 => ⟨zKO_fr (p47bbhko2 h8) (fun x j h => (p66bfr x j (by omega)).trans rfl) (fun x j h => rfl), (p66bfr 61 5 (by omega)).trans w.2.1⟩⟩
                 | (exfalso; omega)
               · first
                 | exact ⟨t47o, p47hre2, Or.inl h8, ((p66bfr 61 3 (by omega)).trans p47bhf).trans (tyZ_f h8).symm, fun h9 => absurd ((tyZ_f h8).symm.trans h9) h8⟩
                 | (exfalso; omega))
            | (have h8 : tyf s ≠ -1 := fun w => by
                 have w1 := hlin (by omega)
                 have w2 := sl (by omega)
                 omega
               first
               | exact ⟨s, hre, Or.inl h8, ((p66bfr 61 3 (by omega)).trans (hfv.trans hfs)).trans (tyZ_f h8).symm, fun h9 => absurd ((tyZ_f h8).symm.trans h9) h8⟩
               | (exfalso; omega))
        · refine And.intro (zA_61 hS) ⟨_, (zWi (by omega)), ?_⟩
          refine hQ _ _ ?_ (fun c j h0 h1 h2 h3 h4 h5 h6 h7 h8 h9 h10 h11 h12 => (zxcj h1 ((p66bfr c j h0).trans ((fr c j h0 h1 h2 h3 h4 h5 h6 h7 h8 h9 h10 h11 h12).trans rfl)))) (fun c j h0 => ((frL c j h0).trans rfl))
          · first
            | (by_cases h8 : tyf t47o = -1
               · have w := p47bbbhl2 h8
                 have ep : pl47o.toNat = typ t47o := by omega
                 have eP : tSk tBk c n pl47o.toNat = tSk tBk c n (typ t47o) := by rw [ep]
                 have he : tyE n 1 t47o := Or.inr (Or.inl ⟨rfl, by omega, w.2.2.2.1⟩)
                 first
                 | exact ⟨t47o, p47hre2, he, zxe.trans (by rw [tyZ_b h8 (by omega)]; omega), fun h9 => by exfalso; rw [tyZ_b h8 (by omega)] at h9; omega⟩
                 | exact ⟨t47o, p47hre2, he, ((p66bfr 61 3 (by omega)).trans p47bhf).trans (by rw [tyZ_e h8 (by omega)]; exact h8), fun h9 => ⟨zKO_fr (p47bbhko2 h8) (fun x j h => (p66bfr x j (by omega)).trans rfl) (fun x j h => rfl), (p66bfr 61 5 (by omega)).trans w.2.1⟩⟩
                 | (exfalso; omega)
               · first
                 | exact ⟨t47o, p47hre2, Or.inl h8, ((p66bfr 61 3 (by omega)).trans p47bhf).trans (tyZ_f h8).symm, fun h9 => absurd ((tyZ_f h8).symm.trans h9) h8⟩
                 | (exfalso; omega))
            | (have h8 : tyf s ≠ -1 := fun w => by
                 have w1 := hlin (by omega)
                 have w2 := sl (by omega)
                 omega
               first
               | exact ⟨s, hre, Or.inl h8, ((p66bfr 61 3 (by omega)).trans (hfv.trans hfs)).trans (tyZ_f h8).symm, fun h9 => absurd ((tyZ_f h8).symm.trans h9) h8⟩
               | (exfalso; omega))
    · refine And.intro (zA_61 hS) (zrd (v := f) hfv ?_)
      refine And.intro ⟨(by omega), (zRb rfl)⟩ ⟨fun h38 => ?_, fun h38 => ?_⟩
      · refine And.intro (zA_61 hS) ⟨_, sn_K_skB.up (by decide), ?_⟩
        refine ⟨c, n, pl.toNat, rfl, hS, hR, htx, (by first | exact (zRD_fr hX (fun c j h => ((fr c j (by omega) (by omega) (by omega) (by omega) (by omega) (by omega) (by omega) (by omega) (by omega) (by omega) (by omega) (by omega) (by omega)).trans rfl))) | (clear hQ; grind [xu])), (by first | exact hc | (clear hQ; grind [xu])), (by omega), (by omega), ?_⟩
        intro I66o p66hpl p66bfr
        have g66 : 0 ≤ I66o 61 2 ∧ I66o 61 2 ≤ 4200 := (by rw [p66hpl]; exact ⟨Int.natCast_nonneg _, Int.ofNat_le.mpr (skb _ (by omega))⟩)
        refine And.intro (zA_61 hS) (zrd (v := (tSk tBk c n (pl.toNat))) p66hpl ?_)
        refine And.intro (zA_61 hS) (zrd (v := n) ((p66bfr 61 1 (by omega)).trans ((fr 61 1 (by omega) (by omega) (by omega) (by omega) (by omega) (by omega) (by omega) (by omega) (by omega) (by omega) (by omega) (by omega) (by omega)).trans x1)) ?_)
        refine And.intro ⟨(by omega), (by omega)⟩ ⟨fun h77 => ?_, fun h77 => ?_⟩
        · refine hQ _ _ ?_ (fun c j h0 h1 h2 h3 h4 h5 h6 h7 h8 h9 h10 h11 h12 => ((p66bfr c j h0).trans ((fr c j h0 h1 h2 h3 h4 h5 h6 h7 h8 h9 h10 h11 h12).trans rfl))) (fun c j h0 => ((frL c j h0).trans rfl))
          · first
            | (by_cases h8 : tyf t47o = -1
               · have w := p47bbbhl2 h8
                 have ep : pl47o.toNat = typ t47o := by omega
                 have eP : tSk tBk c n pl47o.toNat = tSk tBk c n (typ t47o) := by rw [ep]
                 have he : tyE n 1 t47o := Or.inr (Or.inl ⟨rfl, by omega, w.2.2.2.1⟩)
                 first
                 | exact ⟨t47o, p47hre2, he, zxe.trans (by rw [tyZ_b h8 (by omega)]; omega), fun h9 => by exfalso; rw [tyZ_b h8 (by omega)] at h9; omega⟩
                 | exact ⟨t47o, p47hre2, he, ((p66bfr 61 3 (by omega)).trans p47bhf).trans (by rw [tyZ_e h8 (by omega)]; exact h8), fun h9 => ⟨zKO_fr (p47bbhko2 h8) (fun x j h => (p66bfr x j (by omega)).trans rfl) (fun x j h => rfl), (p66bfr 61 5 (by omega)).trans w.2.1⟩⟩
                 | (exfalso; omega)
               · first
                 | exact ⟨t47o, p47hre2, Or.inl h8, ((p66bfr 61 3 (by omega)).trans p47bhf).trans (tyZ_f h8).symm, fun h9 => absurd ((tyZ_f h8).symm.trans h9) h8⟩
                 | (exfalso; omega))
            | (have h8 : tyf s ≠ -1 := fun w => by
                 have w1 := hlin (by omega)
                 have w2 := sl (by omega)
                 omega
               first
               | exact ⟨s, hre, Or.inl h8, ((p66bfr 61 3 (by omega)).trans (hfv.trans hfs)).trans (tyZ_f h8).symm, fun h9 => absurd ((tyZ_f h8).symm.trans h9) h8⟩
               | (exfalso; omega))
        · refine And.intro (zA_61 hS) (zrd (v := (tSk tBk c n (pl.toNat))) p66hpl ?_)
          refine And.intro (zA_61 hS) (Exists.intro _ (And.intro (zinl_ok (zT9_2 4)) (And.intro rfl ?_)))
          refine And.intro (zA_61 hS) (zrd (v := f) ((p66bfr 61 3 (by omega)).trans hfv) ?_)
          refine And.intro ⟨(by omega), (zRb rfl)⟩ ⟨fun h5_85 => ?_, (fun h5_85 => False.elim (by omega))⟩
          refine hQ _ _ ?_ (fun c j h0 h1 h2 h3 h4 h5 h6 h7 h8 h9 h10 h11 h12 => ((p66bfr c j h0).trans ((fr c j h0 h1 h2 h3 h4 h5 h6 h7 h8 h9 h10 h11 h12).trans rfl))) (fun c j h0 => ((frL c j h0).trans rfl))
          · first
            | (by_cases h8 : tyf t47o = -1
               · have w := p47bbbhl2 h8
                 have ep : pl47o.toNat = typ t47o := by omega
                 have eP : tSk tBk c n pl47o.toNat = tSk tBk c n (typ t47o) := by rw [ep]
                 have he : tyE n 1 t47o := Or.inr (Or.inl ⟨rfl, by omega, w.2.2.2.1⟩)
                 first
                 | exact ⟨t47o, p47hre2, he, zxe.trans (by rw [tyZ_b h8 (by omega)]; omega), fun h9 => by exfalso; rw [tyZ_b h8 (by omega)] at h9; omega⟩
                 | exact ⟨t47o, p47hre2, he, ((p66bfr 61 3 (by omega)).trans p47bhf).trans (by rw [tyZ_e h8 (by omega)]; exact h8), fun h9 => ⟨zKO_fr (p47bbhko2 h8) (fun x j h => (p66bfr x j (by omega)).trans rfl) (fun x j h => rfl), (p66bfr 61 5 (by omega)).trans w.2.1⟩⟩
                 | (exfalso; omega)
               · first
                 | exact ⟨t47o, p47hre2, Or.inl h8, ((p66bfr 61 3 (by omega)).trans p47bhf).trans (tyZ_f h8).symm, fun h9 => absurd ((tyZ_f h8).symm.trans h9) h8⟩
                 | (exfalso; omega))
            | (have h8 : tyf s ≠ -1 := fun w => by
                 have w1 := hlin (by omega)
                 have w2 := sl (by omega)
                 omega
               first
               | exact ⟨s, hre, Or.inl h8, ((p66bfr 61 3 (by omega)).trans (hfv.trans hfs)).trans (tyZ_f h8).symm, fun h9 => absurd ((tyZ_f h8).symm.trans h9) h8⟩
               | (exfalso; omega))
      · refine And.intro (zA_61 hS) ⟨_, sn_K_rdl.up (by decide), ?_⟩
        refine ⟨c, n, k, s, (tSk tBk c n (typ s)), (y : Int), rfl, hS, hR, (zStf hT (fun c j h1 h2 => ⟨((fr c j (by omega) (by omega) (by omega) (by omega) (by omega) (by omega) (by omega) (by omega) (by omega) (by omega) (by omega) (by omega) (by omega)).trans rfl), ((frL c j (by omega)).trans rfl)⟩)), htx, (by first | exact (zRD_fr hX (fun c j h => ((fr c j (by omega) (by omega) (by omega) (by omega) (by omega) (by omega) (by omega) (by omega) (by omega) (by omega) (by omega) (by omega) (by omega)).trans rfl))) | (clear hQ; grind [xu])), (by first | exact hc | (clear hQ; grind [xu])), (hlin (by omega)).1, (hlin (by omega)).2.1, hob, hD, (by omega), (Eq.trans (b := (1 : Int)) ((fr 61 6 (by omega) (by omega) (by omega) (by omega) (by omega) (by omega) (by omega) (by omega) (by omega) (by omega) (by omega) (by omega) (by omega)).trans hnb) (by omega)), (hko (by omega)), (hlin (by omega)).2.2.1, (hlin (by omega)).2.2.2.1, (by have w := sb; omega), (sg (by omega)), (hlin (by omega)).2.2.2.2.2.1, (hlin (by omega)).2.2.2.2.1, (Eq.trans (b := (f : Int)) hfv (by omega)), ?_⟩
        intro v44o I44o L44o pl44o p44hf p44bhok p44bbhv p44bbbfr p44bbbbfrL p44bbbbbhpl9 p44bbbbbbhpb9
        refine And.intro (zA_61 hS) ⟨_, sn_K_cls.up (by decide), ?_⟩
        refine ⟨c, n, k, (tyA c n 1 s), (v44o : Int), (tyf (tyA c n 1 s)), (pl44o : Int), rfl, hS, hR, htx, (by first | exact (zRD_fr hX (fun c j h => ((p44bbbfr c j (by omega) (by omega) (by omega) (by omega) (by omega) (by omega) (by omega) (by omega) (by omega) (by omega) (by omega) (by omega) (by omega)).trans ((fr c j (by omega) (by omega) (by omega) (by omega) (by omega) (by omega) (by omega) (by omega) (by omega) (by omega) (by omega) (by omega) (by omega)).trans rfl)))) | (clear hQ; grind [xu])), (by first | exact hc | (clear hQ; grind [xu])), hob, hD, (by omega), p44bbbbbhpl9, (by omega), (tRe_s hre (tyE_n (by omega) (by have w := (hlin (by omega)).2.2.2.2.2.1; omega))), (p44hf.trans (by rw [eA (by omega)])), rfl, (by omega), (fun h9 => by rw [eA (by omega)] at h9 ⊢; exact (p44bhok h9).1), by
intro h9
rw [eA (by omega)] at h9 ⊢
have w := p44bhok h9
have w2 := tyL_m hc h9
exact ⟨w.2.1, w.2.2.1, w.2.2.2.1, w.2.2.2.2, by omega⟩, ?_⟩
        intro v47o t47o I47o pl47o p47hre2 p47bhf p47bbhko2 p47bbbhl2 p47bbbbhv2 p47bbbbbhmo2 p47bbbbbbfr p47bbbbbbbhpl9 p47bbbbbbbbhpb9
        have g47 : -1 ≤ tyf t47o ∧ tyf t47o ≤ 9000 := (tRe_b hc (by decide) p47hre2)
        refine And.intro ⟨(by omega), (zRb rfl)⟩ ⟨fun h53 => ?_, fun h53 => ?_⟩
        · refine ⟨((5000 - (z + 1)), 0, 0), zlt6 (by omega), [some (zvr (61)), some (zvi (v47o)), some (zvi ((z + 1)))], ⟨rfl, rfl, rfl, rfl⟩, t47o, v47o, (tyf t47o), (z + 1), pl47o, rfl, rfl, rfl, rfl, rfl, (by omega), p47hre2, p47bhf, rfl, (by omega), (tRe_b hc (by decide) p47hre2), p47bbbbbbbhpl9, (by omega), p47bbhko2, ?_, (fun c j h0 h1 h2 h3 h4 h5 h6 h7 h8 h9 h10 h11 h12 => ((p47bbbbbbfr c j h0 h1 h2).trans ((p44bbbfr c j h0 h1 h2 h3 h4 h5 h6 h7 h8 h9 h10 h11 h12).trans ((fr c j h0 h1 h2 h3 h4 h5 h6 h7 h8 h9 h10 h11 h12).trans rfl)))), (fun c j h0 => ((p44bbbbfrL c j h0).trans ((frL c j h0).trans rfl)))⟩
          · intro h9
            have w := p47bbbhl2 h9
            have w2 := p47bbbbbhmo2 h9
            have w3 := (hlin (by omega)).2.2.2.2.2.2
            have h8 := w2.1
            rw [eA (by omega)] at h8 w2
            have w5 := tyL_m hc h8
            have w4 : z + 1 ≤ typ t47o := by omega
            rcases w.2.2.2.2 with w6 | w6
            · exfalso; omega
            · exact ⟨w6.2.2.1, w6.2.2.2, w.1, w.2.1, w.2.2.1, fun h => absurd h w6.1, w4⟩
        · refine And.intro (zA_61 hS) ⟨_, sn_K_skB.up (by decide), ?_⟩
          refine ⟨c, n, pl47o.toNat, rfl, hS, hR, htx, (by first | exact (zRD_fr hX (fun c j h => ((p47bbbbbbfr c j (by omega) (by omega) (by omega)).trans ((p44bbbfr c j (by omega) (by omega) (by omega) (by omega) (by omega) (by omega) (by omega) (by omega) (by omega) (by omega) (by omega) (by omega) (by omega)).trans ((fr c j (by omega) (by omega) (by omega) (by omega) (by omega) (by omega) (by omega) (by omega) (by omega) (by omega) (by omega) (by omega) (by omega)).trans rfl))))) | (clear hQ; grind [xu])), (by first | exact hc | (clear hQ; grind [xu])), (by omega), (by omega), ?_⟩
          intro I66o p66hpl p66bfr
          have g66 : 0 ≤ I66o 61 2 ∧ I66o 61 2 ≤ 4200 := (by rw [p66hpl]; exact ⟨Int.natCast_nonneg _, Int.ofNat_le.mpr (skb _ (by omega))⟩)
          refine And.intro (zA_61 hS) (zrd (v := (tSk tBk c n (pl47o.toNat))) p66hpl ?_)
          refine And.intro (zA_61 hS) (zrd (v := n) ((p66bfr 61 1 (by omega)).trans ((p47bbbbbbfr 61 1 (by omega) (by omega) (by omega)).trans ((p44bbbfr 61 1 (by omega) (by omega) (by omega) (by omega) (by omega) (by omega) (by omega) (by omega) (by omega) (by omega) (by omega) (by omega) (by omega)).trans ((fr 61 1 (by omega) (by omega) (by omega) (by omega) (by omega) (by omega) (by omega) (by omega) (by omega) (by omega) (by omega) (by omega) (by omega)).trans x1)))) ?_)
          refine And.intro ⟨(by omega), (by omega)⟩ ⟨fun h77 => ?_, fun h77 => ?_⟩
          · refine hQ _ _ ?_ (fun c j h0 h1 h2 h3 h4 h5 h6 h7 h8 h9 h10 h11 h12 => ((p66bfr c j h0).trans ((p47bbbbbbfr c j h0 h1 h2).trans ((p44bbbfr c j h0 h1 h2 h3 h4 h5 h6 h7 h8 h9 h10 h11 h12).trans ((fr c j h0 h1 h2 h3 h4 h5 h6 h7 h8 h9 h10 h11 h12).trans rfl))))) (fun c j h0 => ((p44bbbbfrL c j h0).trans ((frL c j h0).trans rfl)))
            · first
              | (by_cases h8 : tyf t47o = -1
                 · have w := p47bbbhl2 h8
                   have ep : pl47o.toNat = typ t47o := by omega
                   have eP : tSk tBk c n pl47o.toNat = tSk tBk c n (typ t47o) := by rw [ep]
                   have he : tyE n 1 t47o := Or.inr (Or.inl ⟨rfl, by omega, w.2.2.2.1⟩)
                   first
                   | exact ⟨t47o, p47hre2, he, zxe.trans (by rw [tyZ_b h8 (by omega)]; omega), fun h9 => by exfalso; rw [tyZ_b h8 (by omega)] at h9; omega⟩
                   | exact ⟨t47o, p47hre2, he, ((p66bfr 61 3 (by omega)).trans p47bhf).trans (by rw [tyZ_e h8 (by omega)]; exact h8), fun h9 => ⟨zKO_fr (p47bbhko2 h8) (fun x j h => (p66bfr x j (by omega)).trans rfl) (fun x j h => rfl), (p66bfr 61 5 (by omega)).trans w.2.1⟩⟩
                   | (exfalso; omega)
                 · first
                   | exact ⟨t47o, p47hre2, Or.inl h8, ((p66bfr 61 3 (by omega)).trans p47bhf).trans (tyZ_f h8).symm, fun h9 => absurd ((tyZ_f h8).symm.trans h9) h8⟩
                   | (exfalso; omega))
              | (have h8 : tyf s ≠ -1 := fun w => by
                   have w1 := hlin (by omega)
                   have w2 := sl (by omega)
                   omega
                 first
                 | exact ⟨s, hre, Or.inl h8, ((p66bfr 61 3 (by omega)).trans (hfv.trans hfs)).trans (tyZ_f h8).symm, fun h9 => absurd ((tyZ_f h8).symm.trans h9) h8⟩
                 | (exfalso; omega))
          · refine And.intro (zA_61 hS) (zrd (v := (tSk tBk c n (pl47o.toNat))) p66hpl ?_)
            refine And.intro (zA_61 hS) (Exists.intro _ (And.intro (zinl_ok (zT9_2 4)) (And.intro rfl ?_)))
            refine And.intro (zA_61 hS) (zrd (v := (tyf t47o)) ((p66bfr 61 3 (by omega)).trans p47bhf) ?_)
            refine And.intro ⟨(by omega), (zRb rfl)⟩ ⟨fun h5_85 => ?_, fun h5_85 => ?_⟩
            · refine hQ _ _ ?_ (fun c j h0 h1 h2 h3 h4 h5 h6 h7 h8 h9 h10 h11 h12 => ((p66bfr c j h0).trans ((p47bbbbbbfr c j h0 h1 h2).trans ((p44bbbfr c j h0 h1 h2 h3 h4 h5 h6 h7 h8 h9 h10 h11 h12).trans ((fr c j h0 h1 h2 h3 h4 h5 h6 h7 h8 h9 h10 h11 h12).trans rfl))))) (fun c j h0 => ((p44bbbbfrL c j h0).trans ((frL c j h0).trans rfl)))
              · first
                | (by_cases h8 : tyf t47o = -1
                   · have w := p47bbbhl2 h8
                     have ep : pl47o.toNat = typ t47o := by omega
                     have eP : tSk tBk c n pl47o.toNat = tSk tBk c n (typ t47o) := by rw [ep]
                     have he : tyE n 1 t47o := Or.inr (Or.inl ⟨rfl, by omega, w.2.2.2.1⟩)
                     first
                     | exact ⟨t47o, p47hre2, he, zxe.trans (by rw [tyZ_b h8 (by omega)]; omega), fun h9 => by exfalso; rw [tyZ_b h8 (by omega)] at h9; omega⟩
                     | exact ⟨t47o, p47hre2, he, ((p66bfr 61 3 (by omega)).trans p47bhf).trans (by rw [tyZ_e h8 (by omega)]; exact h8), fun h9 => ⟨zKO_fr (p47bbhko2 h8) (fun x j h => (p66bfr x j (by omega)).trans rfl) (fun x j h => rfl), (p66bfr 61 5 (by omega)).trans w.2.1⟩⟩
                     | (exfalso; omega)
                   · first
                     | exact ⟨t47o, p47hre2, Or.inl h8, ((p66bfr 61 3 (by omega)).trans p47bhf).trans (tyZ_f h8).symm, fun h9 => absurd ((tyZ_f h8).symm.trans h9) h8⟩
                     | (exfalso; omega))
                | (have h8 : tyf s ≠ -1 := fun w => by
                     have w1 := hlin (by omega)
                     have w2 := sl (by omega)
                     omega
                   first
                   | exact ⟨s, hre, Or.inl h8, ((p66bfr 61 3 (by omega)).trans (hfv.trans hfs)).trans (tyZ_f h8).symm, fun h9 => absurd ((tyZ_f h8).symm.trans h9) h8⟩
                   | (exfalso; omega))
            · refine And.intro (zA_61 hS) ⟨_, (zWi (by omega)), ?_⟩
              refine hQ _ _ ?_ (fun c j h0 h1 h2 h3 h4 h5 h6 h7 h8 h9 h10 h11 h12 => (zxcj h1 ((p66bfr c j h0).trans ((p47bbbbbbfr c j h0 h1 h2).trans ((p44bbbfr c j h0 h1 h2 h3 h4 h5 h6 h7 h8 h9 h10 h11 h12).trans ((fr c j h0 h1 h2 h3 h4 h5 h6 h7 h8 h9 h10 h11 h12).trans rfl)))))) (fun c j h0 => ((p44bbbbfrL c j h0).trans ((frL c j h0).trans rfl)))
              · first
                | (by_cases h8 : tyf t47o = -1
                   · have w := p47bbbhl2 h8
                     have ep : pl47o.toNat = typ t47o := by omega
                     have eP : tSk tBk c n pl47o.toNat = tSk tBk c n (typ t47o) := by rw [ep]
                     have he : tyE n 1 t47o := Or.inr (Or.inl ⟨rfl, by omega, w.2.2.2.1⟩)
                     first
                     | exact ⟨t47o, p47hre2, he, zxe.trans (by rw [tyZ_b h8 (by omega)]; omega), fun h9 => by exfalso; rw [tyZ_b h8 (by omega)] at h9; omega⟩
                     | exact ⟨t47o, p47hre2, he, ((p66bfr 61 3 (by omega)).trans p47bhf).trans (by rw [tyZ_e h8 (by omega)]; exact h8), fun h9 => ⟨zKO_fr (p47bbhko2 h8) (fun x j h => (p66bfr x j (by omega)).trans rfl) (fun x j h => rfl), (p66bfr 61 5 (by omega)).trans w.2.1⟩⟩
                     | (exfalso; omega)
                   · first
                     | exact ⟨t47o, p47hre2, Or.inl h8, ((p66bfr 61 3 (by omega)).trans p47bhf).trans (tyZ_f h8).symm, fun h9 => absurd ((tyZ_f h8).symm.trans h9) h8⟩
                     | (exfalso; omega))
                | (have h8 : tyf s ≠ -1 := fun w => by
                     have w1 := hlin (by omega)
                     have w2 := sl (by omega)
                     omega
                   first
                   | exact ⟨s, hre, Or.inl h8, ((p66bfr 61 3 (by omega)).trans (hfv.trans hfs)).trans (tyZ_f h8).symm, fun h9 => absurd ((tyZ_f h8).symm.trans h9) h8⟩
                   | (exfalso; omega)))
