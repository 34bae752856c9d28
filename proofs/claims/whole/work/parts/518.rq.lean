/-! rq -/
def T_K_rln : ZT := fun args I L R S Q => ∃ (c : Nat → Int) (n : Nat) (k : Nat) (s : TyS) (y : Int), args = [zvr 61, zvi y] ∧ (zSh S) ∧ (zRs R) ∧ (zSt I L) ∧ (R 61 0 = some 42) ∧ (zRD c n I) ∧ (tOk c n) ∧ (I 61 2 = typ s) ∧ (R 61 7 = some k) ∧ (zDy zT2 zF2 k R S) ∧ (43 ≤ k ∧ k ≤ 52) ∧ (I 61 6 = 0) ∧ (zKO k c n 0 s I L) ∧ (I 61 5 = tyx s) ∧ (tyg c n 0 s) ∧ (y = tyy s (tyd s)) ∧ (I 61 3 = -1) ∧ ∀ (v : Int) (I' : ZI) (L' : ZI) (pl : Int), (I' 61 3 = tyf (tyA c n 0 s)) → (tyf (tyA c n 0 s) = -1 → zKO k c n 0 (tyA c n 0 s) I' L' ∧ I' 61 2 = typ (tyA c n 0 s) ∧ I' 61 5 = tyx (tyA c n 0 s) ∧ v = tyy (tyA c n 0 s) (tyd (tyA c n 0 s))) → (-1 ≤ v ∧ v ≤ 199) → (∀ c j : Nat, ¬ (c = 61 ∧ j = 2) → ¬ (c = 61 ∧ j = 3) → ¬ (c = 61 ∧ j = 5) → ¬ (c = k ∧ j = 0) → ¬ (c = k ∧ j = 2) → ¬ (c = k ∧ j = 10) → ¬ c = k + 1 → ¬ c = k + 2 → ¬ c = k + 3 → ¬ c = k + 5 → ¬ c = k + 6 → ¬ c = k + 7 → I' c j = I c j) → (∀ c j : Nat, ¬ c = k + 4 → L' c j = L c j) → (I' 61 2 = pl) → (0 ≤ pl ∧ pl ≤ 4300) → Q (some (zvi (v))) I' L' R S
theorem sn_K_rln : ZSnd 5 9 16 T_K_rln := ZSnd.loops (zT9_16 4) (by
  rintro args I L R S Q hz ⟨c, n, k, s, y, rfl, hS, hR, hT, htx, hX, hc, hp, hob, hD, hk, hnb, hs, hxv, hg, hy, hf0, hQ⟩
  obtain ⟨x1, x2⟩ := id hX
  have hn4 := hc.1
  have hk1 := hk.1
  have hk2 := hk.2
  obtain ⟨s0, s2, s10, srow⟩ := id hs
  obtain ⟨⟨b1, b2, b3, b4, b5, b6, b7, b8, b9⟩, bst, brow⟩ := id hg
  have b9_ := b9 (by decide)
  have yz := tyz_b hg (Nat.le_refl (tyd s))
  obtain ⟨cc, hcc⟩ : ∃ cc : Nat, I k 10 = cc := ⟨(I k 10).toNat, by omega⟩
  have yzb : -1 ≤ tyy s (tyd s) ∧ tyy s (tyd s) + 1 ≤ tyn s := by rcases yz with z | z <;> omega
  have yzd : (y = -1 ∧ tyd s = 0) ∨ (0 ≤ y ∧ 0 < tyd s ∧ tyr s (tyy s (tyd s)).toNat 4 = (tyd s : Int) - 1) := by rcases yz with z | z; exact Or.inl ⟨by omega, z.1⟩; exact Or.inr ⟨by omega, z.1, z.2.2.2.2.1⟩
  refine ⟨[23, 72], fun nM tM lsM stM I1 L1 R1 S1 => match tM with
      | 23 => ∃ (m : Nat) (D : Nat), nM = (1, (300 - D), 0) ∧ lsM = [some (zvr (61)), some (zvi (y)), some (zvi (m)), some (zvi (D)), none, none] ∧ stM = [] ∧ L1 = L ∧ R1 = R ∧ S1 = S ∧ (m = tyd s ∧ D ≤ tyd s) ∧ (typ s + D ≤ n) ∧ (I1 61 2 = typ s + D) ∧ (∀ t, t < D → c (typ s + t) = 46) ∧ (∀ c j : Nat, ¬ (c = 61 ∧ j = 2) → I1 c j = I c j)
      | 72 => ∃ (D : Nat), nM = (0, 0, 0) ∧ lsM = [some (zvr (61)), some (zvi (y)), none, some (zvi (D)), none, none] ∧ stM = [] ∧ L1 = L ∧ R1 = R ∧ S1 = S ∧ (D ≤ tyd s) ∧ (typ s + D ≤ n) ∧ (I1 61 2 = typ s + D) ∧ ((D = tyD c n s ∧ D ≤ tyd s) ∨ (D = tyd s ∧ tyd s < tyD c n s)) ∧ (D = tyd s → tyd s < tyD c n s → c (typ s + D) = 46) ∧ (D = 0 → typ s = 0) ∧ (∀ c j : Nat, ¬ (c = 61 ∧ j = 2) → I1 c j = I c j)
      | _ => False, rfl, ?_, ⟨?_, ?_, True.intro⟩⟩
  · refine And.intro ⟨(by omega), (zRb rfl)⟩ ⟨fun h2 => ?_, fun h2 => ?_⟩
    · refine And.intro (zA_61 hS) (zrdR (v := some k) hob ?_)
      refine And.intro (zDX hD 0 rfl) (zrdR (v := some (k + 3)) (zDR hD 2 rfl) ?_)
      refine And.intro (zDP hD 3 rfl rfl (by omega) (by omega)) (fun v17 e17 r17 => ?_)
      have f17 : v17 = tyr s (tyy s (tyd s)).toNat 4 := (e17.trans ((congrArg (I (k + 3)) (by omega)).trans (srow (tyy s (tyd s)).toNat (by omega)).1.2.2))
      refine ⟨(1, (300 - (0 : Nat)), 0), [some (zvr (61)), some (zvi (y)), some (zvi ((tyd s))), some (zvi ((0 : Nat))), none, none], ⟨rfl, rfl, (congrArg (fun z => some (zvi z)) (by omega)), rfl, rfl⟩, (tyd s), 0, rfl, rfl, rfl, rfl, rfl, rfl, (by omega), (by omega), (Eq.trans (b := ((typ s) : Int)) hp (by omega)), (fun t h => absurd h (Nat.not_lt_zero t)), (fun c j h0 => rfl)⟩
    · refine ⟨(1, (300 - (0 : Nat)), 0), [some (zvr (61)), some (zvi (y)), some (zvi ((tyd s))), some (zvi ((0 : Nat))), none, none], ⟨rfl, rfl, (congrArg (fun z => some (zvi z)) (by omega)), rfl, rfl⟩, (tyd s), 0, rfl, rfl, rfl, rfl, rfl, rfl, (by omega), (by omega), (Eq.trans (b := ((typ s) : Int)) hp (by omega)), (fun t h => absurd h (Nat.not_lt_zero t)), (fun c j h0 => rfl)⟩
  · rintro nM lsM stM I1 L1 R1 S1 hz1 ⟨m, D, rfl, rfl, rfl, rfl, rfl, rfl, hm, hDn, hpl1, h46, fr⟩
    have cD := tOk_b (p := (typ s + D)) hc
    have hDD : (D = tyd s ∨ c (typ s + D) ≠ 46) → (D = tyD c n s ∧ D ≤ tyd s) ∨ (D = tyd s ∧ tyd s < tyD c n s) := fun w => by by_cases e : c (typ s + D) = 46; (have z := tyD_gt hc h46 e; exact Or.inr ⟨by omega, by omega⟩); exact Or.inl ⟨(tyD_at hc (by omega) h46 e).symm, by omega⟩
    have hD46 : D = tyd s → tyd s < tyD c n s → c (typ s + D) = 46 := fun e w => Classical.byContradiction (fun e2 => by have z := tyD_at hc (by omega) h46 e2; omega)
    have yD := tyz_b hg hm.2
    have kb0 := tKd_b (c := c) (p := (typ s + D)) (q := (tSk tSm c n (typ s + D)))
    refine And.intro ⟨(by omega), (by omega)⟩ ⟨fun h25 => ?_, fun h25 => ?_⟩
    · refine And.intro ⟨(by omega), (zRb rfl)⟩ ⟨fun h55 => ?_, fun h55 => ?_⟩
      · refine ⟨(0, 0, 0), zlt6 (by omega), [some (zvr (61)), some (zvi (y)), none, some (zvi (D)), none, none], ⟨rfl, rfl, rfl, rfl⟩, D, rfl, rfl, rfl, rfl, rfl, rfl, (by omega), (by omega), (Eq.trans (b := ((typ s + D) : Int)) hpl1 (by omega)), (hDD (by omega)), hD46, (fun e => by omega), (fun c j h0 => ((fr c j h0).trans rfl))⟩
      · refine And.intro (by omega) ⟨fun h59 => ?_, fun h59 => ?_⟩
        · refine ⟨(0, 0, 0), zlt6 (by omega), [some (zvr (61)), some (zvi (y)), none, some (zvi (D)), none, none], ⟨rfl, rfl, rfl, rfl⟩, D, rfl, rfl, rfl, rfl, rfl, rfl, (by omega), (by omega), (Eq.trans (b := ((typ s + D) : Int)) hpl1 (by omega)), (hDD (by omega)), hD46, (fun e => by omega), (fun c j h0 => ((fr c j h0).trans rfl))⟩
        · refine And.intro (zA_61 hS) (zrd (v := (typ s + D)) hpl1 ?_)
          refine And.intro (zA_61 hS) (Exists.intro _ (And.intro (zinl_ok (zT9_2 3)) (And.intro rfl ?_)))
          refine And.intro (zA_61 hS) (zrd (v := (-1)) ((fr 61 3 (by omega)).trans hf0) ?_)
          refine And.intro ⟨(zRb rfl), (zRb rfl)⟩ (zbf rfl ?_)
          refine And.intro (zA_61 hS) ⟨_, (zWi (by omega)), ?_⟩
          refine hQ _ _ _ ((typ s + D) : Int) ?_ ?_ (by omega) (fun c j h0 h1 h2 h3 h4 h5 h6 h7 h8 h9 h10 h11 => (zxcj h1 ((fr c j h0).trans rfl))) (fun c j h0 => rfl) hpl1 (by omega)
          · first
            | (rw [tyA_d0 (by omega) (by have w := hDD (by omega); omega) (by omega)]
               exact zxe.trans (show _ = ((typ s : Nat) : Int) by omega))
            | (rw [tyA_nb hDD hD0 w87.1]
               exact w87.2.2)
            | (rw [tyA_y hDD hD46 hD0 w87.1]
               have em := tSm_s hc w87.1.1
               first
               | (rw [tyB_9 (show (tKd c (typ s + D) (tSk tSm c n (typ s + D))) = 9 by omega), tkX_0]
                  exact p120hf)
               | (have hz : tVz c n 0 (tKd c (typ s + D) (tSk tSm c n (typ s + D))).toNat (tSk tSm c n (typ s + D)) (tFv (tKd c (typ s + D) (tSk tSm c n (typ s + D))).toNat (tyx s)) ≠ -1 := by omega
                  rw [tyB_vf hc em.2.1 (show (tKd c (typ s + D) (tSk tSm c n (typ s + D))) ≠ 9 by omega) hz]
                  exact zxs (by omega) p128hf)
               | (have hz : tVz c n 0 (tKd c (typ s + D) (tSk tSm c n (typ s + D))).toNat (tSk tSm c n (typ s + D)) (tFv (tKd c (typ s + D) (tSk tSm c n (typ s + D))).toNat (tyx s)) = -1 := by omega
                  have y2 := p128bhok hz
                  first
                  | (rw [tyB_vn (show (tKd c (typ s + D) (tSk tSm c n (typ s + D))) ≠ 9 by omega) hz (by omega)]
                     exact (zxs (by omega) zxe).trans (show _ = (((tVp c n 0 (tKd c (typ s + D) (tSk tSm c n (typ s + D))).toNat (tSk tSm c n (typ s + D)) (tFv (tKd c (typ s + D) (tSk tSm c n (typ s + D))).toNat (tyx s))) : Nat) : Int) by omega))
                  | (rw [tyB_v (show (tKd c (typ s + D) (tSk tSm c n (typ s + D))) ≠ 9 by omega) hz (fun _ => by omega)]
                     exact (zxs (by omega) p128hf).trans hz)))
          · intro h9
            first
            | (exfalso
               rw [tyA_d0 (by omega) (by have w := hDD (by omega); omega) (by omega)] at h9
               exact tyF_f h9)
            | (exfalso
               rw [tyA_nb hDD hD0 w87.1] at h9
               exact tyF_f h9)
            | (rw [tyA_y hDD hD46 hD0 w87.1] at h9 ⊢
               have em := tSm_s hc w87.1.1
               first
               | (have hx : tlX c n (typ s + D + 2000 - tyk s) D (tSk tSm c n (typ s + D)) = -1 := by
                    rw [tyB_9 (show (tKd c (typ s + D) (tSk tSm c n (typ s + D))) = 9 by omega), tkX_0] at h9
                    exact h9
                  have y2 := p120bhok hx
                  have eb := tlX_b hc hx
                  have e9 : (tKd c (typ s + D) (tSk tSm c n (typ s + D))).toNat = 9 := by omega
                  rw [tyB_u (show (tKd c (typ s + D) (tSk tSm c n (typ s + D))) = 9 by omega) (tkX_0.trans hx), tkE_0]
                  refine ⟨zKO_U hs hcc (by omega) (by omega) (by omega) ((p120bbfr k 0 (by omega) (by omega) (by omega) (by omega) (by omega) (by omega) (by omega)).trans w87.2.2.2.2.1) y2.2.1 ⟨(p120bbfr (k + 1) _ (by omega) (by omega) (by omega) (by omega) (by omega) (by omega) (by omega)).trans (w87.2.2.2.2.2.1.trans (by omega)), (p120bbfr (k + 2) _ (by omega) (by omega) (by omega) (by omega) (by omega) (by omega) (by omega)).trans (w87.2.2.2.2.2.2.1.trans p84hv), (p120bbfr (k + 3) _ (by omega) (by omega) (by omega) (by omega) (by omega) (by omega) (by omega)).trans (by have z := w87.2.2.2.2.2.2.2.1; omega)⟩ y2.2.2.1
                    (fun w hw => (w87.2.2.2.2.2.2.2.2.2 w hw).trans (by rw [e9])) ⟨y2.2.2.2.1, y2.2.2.2.2.1⟩ ⟨(p120bbfr (k + 5) _ (by omega) (by omega) (by omega) (by omega) (by omega) (by omega) (by omega)).trans (w87.2.2.2.2.2.2.2.2.1 1 (by decide)).1, (p120bbfr (k + 6) _ (by omega) (by omega) (by omega) (by omega) (by omega) (by omega) (by omega)).trans (w87.2.2.2.2.2.2.2.2.1 1 (by decide)).2⟩ y2.2.2.2.2.2
                    (fun x j hx hj => (p120bbfr x j (by omega) (by omega) (by omega) (by omega) (by omega) (by omega) (by omega)).trans ((p87bbfr x j (by omega) (by omega) (by omega) (by omega) (by omega) (by omega) (by omega) (by omega)).trans ((fr x j (by omega)).trans rfl))) (fun x j hx hj => (p120bbfr x j (by omega) (by omega) (by omega) (by omega) (by omega) (by omega) (by omega)).trans ((p87bbfr x j (by omega) (by omega) (by omega) (by omega) (by omega) (by omega) (by omega) (by omega)).trans ((fr x j (by omega)).trans rfl))) (fun j hj => (p120bbfr (k + 7) j (by omega) (by omega) (by omega) (by omega) (by omega) (by omega) (by omega)).trans ((p87bbfr (k + 7) j (by omega) (by omega) (by omega) (by omega) (by omega) (by omega) (by omega) (by omega)).trans ((fr (k + 7) j (by omega)).trans rfl))) (fun j hj => p87bbbfrL (k + 4) j (by omega)), y2.1, (p120bbfr 61 5 (by omega) (by omega) (by omega) (by omega) (by omega) (by omega) (by omega)).trans ((p87bbfr 61 5 (by omega) (by omega) (by omega) (by omega) (by omega) (by omega) (by omega) (by omega)).trans ((fr 61 5 (by omega)).trans hxv)), hy⟩)
               | (have hz : tVz c n 0 (tKd c (typ s + D) (tSk tSm c n (typ s + D))).toNat (tSk tSm c n (typ s + D)) (tFv (tKd c (typ s + D) (tSk tSm c n (typ s + D))).toNat (tyx s)) = -1 := by omega
                  have y2 := p128bhok hz
                  have h10 : c (tVp c n 0 (tKd c (typ s + D) (tSk tSm c n (typ s + D))).toNat (tSk tSm c n (typ s + D)) (tFv (tKd c (typ s + D) (tSk tSm c n (typ s + D))).toNat (tyx s))) = 10 := by omega
                  rw [tyB_v (show (tKd c (typ s + D) (tSk tSm c n (typ s + D))) ≠ 9 by omega) hz (fun _ => h10)]
                  refine ⟨zKO_fr (zKO_O hs (a_ := (tKd c (typ s + D) (tSk tSm c n (typ s + D))).toNat) (by omega) (by omega) hcc ((p128bbfr k 0 (by omega) (by omega) (by omega) (by omega) (by omega) (by omega) (by omega)).trans w87.2.2.2.2.1) ((p128bbfr k 2 (by omega) (by omega) (by omega) (by omega) (by omega) (by omega) (by omega)).trans ((p87bbfr k 2 (by omega) (by omega) (by omega) (by omega) (by omega) (by omega) (by omega) (by omega)).trans ((fr k 2 (by omega)).trans s2))) ⟨(p128bbfr (k + 1) _ (by omega) (by omega) (by omega) (by omega) (by omega) (by omega) (by omega)).trans w87.2.2.2.2.2.1, (p128bbfr (k + 2) _ (by omega) (by omega) (by omega) (by omega) (by omega) (by omega) (by omega)).trans (w87.2.2.2.2.2.2.1.trans p84hv), (p128bbfr (k + 3) _ (by omega) (by omega) (by omega) (by omega) (by omega) (by omega) (by omega)).trans (by have z := w87.2.2.2.2.2.2.2.1; omega)⟩ ⟨y2.2.2.1, (by have y3 := y2.2.2.2.1; show _ ≤ (((tVp c n 0 (tKd c (typ s + D) (tSk tSm c n (typ s + D))).toNat (tSk tSm c n (typ s + D)) (tFv (tKd c (typ s + D) (tSk tSm c n (typ s + D))).toNat (tyx s))) + (1 - 0) : Nat) : Int); omega)⟩ y2.2.2.2.2
                    (fun w h1 h2 => (p128bbbfrL (k + 4) _ (by omega)).trans (w87.2.2.2.2.2.2.2.2.2 w h2)) (fun w h1 h2 => ⟨(p128bbfr (k + 5) _ (by omega) (by omega) (by omega) (by omega) (by omega) (by omega) (by omega)).trans (w87.2.2.2.2.2.2.2.2.1 w h2).1, (p128bbfr (k + 6) _ (by omega) (by omega) (by omega) (by omega) (by omega) (by omega) (by omega)).trans (w87.2.2.2.2.2.2.2.2.1 w h2).2⟩)
                    (fun x j hx hj => (p128bbfr x j (by omega) (by omega) (by omega) (by omega) (by omega) (by omega) (by omega)).trans ((p87bbfr x j (by omega) (by omega) (by omega) (by omega) (by omega) (by omega) (by omega) (by omega)).trans ((fr x j (by omega)).trans rfl))) (fun x j hx hj => (p128bbfr x j (by omega) (by omega) (by omega) (by omega) (by omega) (by omega) (by omega)).trans ((p87bbfr x j (by omega) (by omega) (by omega) (by omega) (by omega) (by omega) (by omega) (by omega)).trans ((fr x j (by omega)).trans rfl))) (fun j hj => (p128bbfr (k + 7) j (by omega) (by omega) (by omega) (by omega) (by omega) (by omega) (by omega)).trans ((p87bbfr (k + 7) j (by omega) (by omega) (by omega) (by omega) (by omega) (by omega) (by omega) (by omega)).trans ((fr (k + 7) j (by omega)).trans rfl))) (fun j hj => (p128bbbfrL (k + 4) j (by omega)).trans (p87bbbfrL (k + 4) j (by omega)))) (fun x j h => zxcj (by omega) rfl) (fun x j h => rfl), zxe.trans (show _ = (((tVp c n 0 (tKd c (typ s + D) (tSk tSm c n (typ s + D))).toNat (tSk tSm c n (typ s + D)) (tFv (tKd c (typ s + D) (tSk tSm c n (typ s + D))).toNat (tyx s))) + (1 - 0) : Nat) : Int) by omega), zxs (by omega) y2.2.1, w87.2.1.trans tyy_O.symm⟩)
               | (exfalso
                  have hz : tVz c n 0 (tKd c (typ s + D) (tSk tSm c n (typ s + D))).toNat (tSk tSm c n (typ s + D)) (tFv (tKd c (typ s + D) (tSk tSm c n (typ s + D))).toNat (tyx s)) ≠ -1 := by omega
                  rw [tyB_vf hc em.2.1 (show (tKd c (typ s + D) (tSk tSm c n (typ s + D))) ≠ 9 by omega) hz] at h9
                  exact hz h9)
               | (exfalso
                  have hz : tVz c n 0 (tKd c (typ s + D) (tSk tSm c n (typ s + D))).toNat (tSk tSm c n (typ s + D)) (tFv (tKd c (typ s + D) (tSk tSm c n (typ s + D))).toNat (tyx s)) = -1 := by omega
                  have y2 := p128bhok hz
                  rw [tyB_vn (show (tKd c (typ s + D) (tSk tSm c n (typ s + D))) ≠ 9 by omega) hz (by omega)] at h9
                  exact tyF_f h9))
    · refine And.intro (zA_61 hS) ⟨_, sn_K_peek.up (by decide), ?_⟩
      refine ⟨c, n, (typ s + D), rfl, hS, hR, htx, (by first | exact (zRD_fr hX (fun c j h => ((fr c j (by omega)).trans rfl))) | (clear hQ; grind [xu])), (by first | exact hc | (clear hQ; grind [xu])), hpl1, (by omega), ?_⟩
      intro v29o p29hv p29bhv2
      refine And.intro ⟨(by omega), (zRb rfl)⟩ ⟨fun h34 => ?_, fun h34 => ?_⟩
      · refine And.intro ⟨(by omega), (zRb rfl)⟩ ⟨fun h55 => ?_, fun h55 => ?_⟩
        · refine ⟨(0, 0, 0), zlt6 (by omega), [some (zvr (61)), some (zvi (y)), none, some (zvi (D)), none, none], ⟨rfl, rfl, rfl, rfl⟩, D, rfl, rfl, rfl, rfl, rfl, rfl, (by omega), (by omega), (Eq.trans (b := ((typ s + D) : Int)) hpl1 (by omega)), (hDD (by omega)), hD46, (fun e => by omega), (fun c j h0 => ((fr c j h0).trans rfl))⟩
        · refine And.intro (by omega) ⟨fun h59 => ?_, fun h59 => ?_⟩
          · refine ⟨(0, 0, 0), zlt6 (by omega), [some (zvr (61)), some (zvi (y)), none, some (zvi (D)), none, none], ⟨rfl, rfl, rfl, rfl⟩, D, rfl, rfl, rfl, rfl, rfl, rfl, (by omega), (by omega), (Eq.trans (b := ((typ s + D) : Int)) hpl1 (by omega)), (hDD (by omega)), hD46, (fun e => by omega), (fun c j h0 => ((fr c j h0).trans rfl))⟩
          · refine And.intro (zA_61 hS) (zrd (v := (typ s + D)) hpl1 ?_)
            refine And.intro (zA_61 hS) (Exists.intro _ (And.intro (zinl_ok (zT9_2 3)) (And.intro rfl ?_)))
            refine And.intro (zA_61 hS) (zrd (v := (-1)) ((fr 61 3 (by omega)).trans hf0) ?_)
            refine And.intro ⟨(zRb rfl), (zRb rfl)⟩ (zbf rfl ?_)
            refine And.intro (zA_61 hS) ⟨_, (zWi (by omega)), ?_⟩
            refine hQ _ _ _ ((typ s + D) : Int) ?_ ?_ (by omega) (fun c j h0 h1 h2 h3 h4 h5 h6 h7 h8 h9 h10 h11 => (zxcj h1 ((fr c j h0).trans rfl))) (fun c j h0 => rfl) hpl1 (by omega)
            · first
              | (rw [tyA_d0 (by omega) (by have w := hDD (by omega); omega) (by omega)]
                 exact zxe.trans (show _ = ((typ s : Nat) : Int) by omega))
              | (rw [tyA_nb hDD hD0 w87.1]
                 exact w87.2.2)
              | (rw [tyA_y hDD hD46 hD0 w87.1]
                 have em := tSm_s hc w87.1.1
                 first
                 | (rw [tyB_9 (show (tKd c (typ s + D) (tSk tSm c n (typ s + D))) = 9 by omega), tkX_0]
                    exact p120hf)
                 | (have hz : tVz c n 0 (tKd c (typ s + D) (tSk tSm c n (typ s + D))).toNat (tSk tSm c n (typ s + D)) (tFv (tKd c (typ s + D) (tSk tSm c n (typ s + D))).toNat (tyx s)) ≠ -1 := by omega
                    rw [tyB_vf hc em.2.1 (show (tKd c (typ s + D) (tSk tSm c n (typ s + D))) ≠ 9 by omega) hz]
                    exact zxs (by omega) p128hf)
                 | (have hz : tVz c n 0 (tKd c (typ s + D) (tSk tSm c n (typ s + D))).toNat (tSk tSm c n (typ s + D)) (tFv (tKd c (typ s + D) (tSk tSm c n (typ s + D))).toNat (tyx s)) = -1 := by omega
                    have y2 := p128bhok hz
                    first
                    | (rw [tyB_vn (show (tKd c (typ s + D) (tSk tSm c n (typ s + D))) ≠ 9 by omega) hz (by omega)]
                       exact (zxs (by omega) zxe).trans (show _ = (((tVp c n 0 (tKd c (typ s + D) (tSk tSm c n (typ s + D))).toNat (tSk tSm c n (typ s + D)) (tFv (tKd c (typ s + D) (tSk tSm c n (typ s + D))).toNat (tyx s))) : Nat) : Int) by omega))
                    | (rw [tyB_v (show (tKd c (typ s + D) (tSk tSm c n (typ s + D))) ≠ 9 by omega) hz (fun _ => by omega)]
                       exact (zxs (by omega) p128hf).trans hz)))
            · intro h9
              first
              | (exfalso
                 rw [tyA_d0 (by omega) (by have w := hDD (by omega); omega) (by omega)] at h9
                 exact tyF_f h9)
              | (exfalso
                 rw [tyA_nb hDD hD0 w87.1] at h9
                 exact tyF_f h9)
              | (rw [tyA_y hDD hD46 hD0 w87.1] at h9 ⊢
                 have em := tSm_s hc w87.1.1
                 first
                 | (have hx : tlX c n (typ s + D + 2000 - tyk s) D (tSk tSm c n (typ s + D)) = -1 := by
                      rw [tyB_9 (show (tKd c (typ s + D) (tSk tSm c n (typ s + D))) = 9 by omega), tkX_0] at h9
                      exact h9
                    have y2 := p120bhok hx
                    have eb := tlX_b hc hx
                    have e9 : (tKd c (typ s + D) (tSk tSm c n (typ s + D))).toNat = 9 := by omega
                    rw [tyB_u (show (tKd c (typ s + D) (tSk tSm c n (typ s + D))) = 9 by omega) (tkX_0.trans hx), tkE_0]
                    refine ⟨zKO_U hs hcc (by omega) (by omega) (by omega) ((p120bbfr k 0 (by omega) (by omega) (by omega) (by omega) (by omega) (by omega) (by omega)).trans w87.2.2.2.2.1) y2.2.1 ⟨(p120bbfr (k + 1) _ (by omega) (by omega) (by omega) (by omega) (by omega) (by omega) (by omega)).trans (w87.2.2.2.2.2.1.trans (by omega)), (p120bbfr (k + 2) _ (by omega) (by omega) (by omega) (by omega) (by omega) (by omega) (by omega)).trans (w87.2.2.2.2.2.2.1.trans p84hv), (p120bbfr (k + 3) _ (by omega) (by omega) (by omega) (by omega) (by omega) (by omega) (by omega)).trans (by have z := w87.2.2.2.2.2.2.2.1; omega)⟩ y2.2.2.1
                      (fun w hw => (w87.2.2.2.2.2.2.2.2.2 w hw).trans (by rw [e9])) ⟨y2.2.2.2.1, y2.2.2.2.2.1⟩ ⟨(p120bbfr (k + 5) _ (by omega) (by omega) (by omega) (by omega) (by omega) (by omega) (by omega)).trans (w87.2.2.2.2.2.2.2.2.1 1 (by decide)).1, (p120bbfr (k + 6) _ (by omega) (by omega) (by omega) (by omega) (by omega) (by omega) (by omega)).trans (w87.2.2.2.2.2.2.2.2.1 1 (by decide)).2⟩ y2.2.2.2.2.2
                      (fun x j hx hj => (p120bbfr x j (by omega) (by omega) (by omega) (by omega) (by omega) (by omega) (by omega)).trans ((p87bbfr x j (by omega) (by omega) (by omega) (by omega) (by omega) (by omega) (by omega) (by omega)).trans ((fr x j (by omega)).trans rfl))) (fun x j hx hj => (p120bbfr x j (by omega) (by omega) (by omega) (by omega) (by omega) (by omega) (by omega)).trans ((p87bbfr x j (by omega) (by omega) (by omega) (by omega) (by omega) (by omega) (by omega) (by omega)).trans ((fr x j (by omega)).trans rfl))) (fun j hj => (p120bbfr (k + 7) j (by omega) (by omega) (by omega) (by omega) (by omega) (by omega) (by omega)).trans ((p87bbfr (k + 7) j (by omega) (by omega) (by omega) (by omega) (by omega) (by omega) (by omega) (by omega)).trans ((fr (k + 7) j (by omega)).trans rfl))) (fun j hj => p87bbbfrL (k + 4) j (by omega)), y2.1, (p120bbfr 61 5 (by omega) (by omega) (by omega) (by omega) (by omega) (by omega) (by omega)).trans ((p87bbfr 61 5 (by omega) (by omega) (by omega) (by omega) (by omega) (by omega) (by omega) (by omega)).trans ((fr 61 5 (by omega)).trans hxv)), hy⟩)
                 | (have hz : tVz c n 0 (tKd c (typ s + D) (tSk tSm c n (typ s + D))).toNat (tSk tSm c n (typ s + D)) (tFv (tKd c (typ s + D) (tSk tSm c n (typ s + D))).toNat (tyx s)) = -1 := by omega
                    have y2 := p128bhok hz
                    have h10 : c (tVp c n 0 (tKd c (typ s + D) (tSk tSm c n (typ s + D))).toNat (tSk tSm c n (typ s + D)) (tFv (tKd c (typ s + D) (tSk tSm c n (typ s + D))).toNat (tyx s))) = 10 := by omega
                    rw [tyB_v (show (tKd c (typ s + D) (tSk tSm c n (typ s + D))) ≠ 9 by omega) hz (fun _ => h10)]
                    refine ⟨zKO_fr (zKO_O hs (a_ := (tKd c (typ s + D) (tSk tSm c n (typ s + D))).toNat) (by omega) (by omega) hcc ((p128bbfr k 0 (by omega) (by omega) (by omega) (by omega) (by omega) (by omega) (by omega)).trans w87.2.2.2.2.1) ((p128bbfr k 2 (by omega) (by omega) (by omega) (by omega) (by omega) (by omega) (by omega)).trans ((p87bbfr k 2 (by omega) (by omega) (by omega) (by omega) (by omega) (by omega) (by omega) (by omega)).trans ((fr k 2 (by omega)).trans s2))) ⟨(p128bbfr (k + 1) _ (by omega) (by omega) (by omega) (by omega) (by omega) (by omega) (by omega)).trans w87.2.2.2.2.2.1, (p128bbfr (k + 2) _ (by omega) (by omega) (by omega) (by omega) (by omega) (by omega) (by omega)).trans (w87.2.2.2.2.2.2.1.trans p84hv), (p128bbfr (k + 3) _ (by omega) (by omega) (by omega) (by omega) (by omega) (by omega) (by omega)).trans (by have z := w87.2.2.2.2.2.2.2.1; omega)⟩ ⟨y2.2.2.1, (by have y3 := y2.2.2.2.1; show _ ≤ (((tVp c n 0 (tKd c (typ s + D) (tSk tSm c n (typ s + D))).toNat (tSk tSm c n (typ s + D)) (tFv (tKd c (typ s + D) (tSk tSm c n (typ s + D))).toNat (tyx s))) + (1 - 0) : Nat) : Int); omega)⟩ y2.2.2.2.2
                      (fun w h1 h2 => (p128bbbfrL (k + 4) _ (by omega)).trans (w87.2.2.2.2.2.2.2.2.2 w h2)) (fun w h1 h2 => ⟨(p128bbfr (k + 5) _ (by omega) (by omega) (by omega) (by omega) (by omega) (by omega) (by omega)).trans (w87.2.2.2.2.2.2.2.2.1 w h2).1, (p128bbfr (k + 6) _ (by omega) (by omega) (by omega) (by omega) (by omega) (by omega) (by omega)).trans (w87.2.2.2.2.2.2.2.2.1 w h2).2⟩)
                      (fun x j hx hj => (p128bbfr x j (by omega) (by omega) (by omega) (by omega) (by omega) (by omega) (by omega)).trans ((p87bbfr x j (by omega) (by omega) (by omega) (by omega) (by omega) (by omega) (by omega) (by omega)).trans ((fr x j (by omega)).trans rfl))) (fun x j hx hj => (p128bbfr x j (by omega) (by omega) (by omega) (by omega) (by omega) (by omega) (by omega)).trans ((p87bbfr x j (by omega) (by omega) (by omega) (by omega) (by omega) (by omega) (by omega) (by omega)).trans ((fr x j (by omega)).trans rfl))) (fun j hj => (p128bbfr (k + 7) j (by omega) (by omega) (by omega) (by omega) (by omega) (by omega) (by omega)).trans ((p87bbfr (k + 7) j (by omega) (by omega) (by omega) (by omega) (by omega) (by omega) (by omega) (by omega)).trans ((fr (k + 7) j (by omega)).trans rfl))) (fun j hj => (p128bbbfrL (k + 4) j (by omega)).trans (p87bbbfrL (k + 4) j (by omega)))) (fun x j h => zxcj (by omega) rfl) (fun x j h => rfl), zxe.trans (show _ = (((tVp c n 0 (tKd c (typ s + D) (tSk tSm c n (typ s + D))).toNat (tSk tSm c n (typ s + D)) (tFv (tKd c (typ s + D) (tSk tSm c n (typ s + D))).toNat (tyx s))) + (1 - 0) : Nat) : Int) by omega), zxs (by omega) y2.2.1, w87.2.1.trans tyy_O.symm⟩)
                 | (exfalso
                    have hz : tVz c n 0 (tKd c (typ s + D) (tSk tSm c n (typ s + D))).toNat (tSk tSm c n (typ s + D)) (tFv (tKd c (typ s + D) (tSk tSm c n (typ s + D))).toNat (tyx s)) ≠ -1 := by omega
                    rw [tyB_vf hc em.2.1 (show (tKd c (typ s + D) (tSk tSm c n (typ s + D))) ≠ 9 by omega) hz] at h9
                    exact hz h9)
                 | (exfalso
                    have hz : tVz c n 0 (tKd c (typ s + D) (tSk tSm c n (typ s + D))).toNat (tSk tSm c n (typ s + D)) (tFv (tKd c (typ s + D) (tSk tSm c n (typ s + D))).toNat (tyx s)) = -1 := by omega
                    have y2 := p128bhok hz
                    rw [tyB_vn (show (tKd c (typ s + D) (tSk tSm c n (typ s + D))) ≠ 9 by omega) hz (by omega)] at h9
                    exact tyF_f h9))
      · refine And.intro (zA_61 hS) (zrd (v := (typ s + D)) hpl1 ?_)
        refine And.intro (zA_61 hS) ⟨_, (zWi (by omega)), ?_⟩
        refine ⟨(1, (300 - (D + 1)), 0), zlt6 (by omega), [some (zvr (61)), some (zvi (y)), some (zvi (m)), some (zvi ((D + 1))), none, none], ⟨rfl, rfl, rfl, rfl, rfl⟩, m, (D + 1), rfl, rfl, rfl, rfl, rfl, rfl, (by omega), (by rcases Nat.lt_or_ge (typ s + D) n with q | q; omega; (have z := hc.2.2 _ q; omega)), (Eq.trans (b := (((typ s + D) + 1) : Int)) rfl (by omega)), ?_, (fun c j h0 => (zxcj h0 ((fr c j h0).trans rfl)))⟩
        · intro t ht
          by_cases e : t = D
          · rw [e]
            omega
          · exact h46 t (by omega)
  · rintro nM lsM stM I1 L1 R1 S1 hz1 ⟨D, rfl, rfl, rfl, rfl, rfl, rfl, hm, hDn, hpl1, hDD, hD46, hD0, fr⟩
    have cD := tOk_b (p := (typ s + D)) hc
    have yD := tyz_b hg hm
    have kb0 := tKd_b (c := c) (p := (typ s + D)) (q := (tSk tSm c n (typ s + D)))
    refine And.intro (zA_61 hS) (zrd (v := (typ s + D)) hpl1 ?_)
    refine And.intro (zA_61 hS) ⟨_, sn_K_anc.up (by decide), ?_⟩
    refine ⟨c, n, k, s, y, ((D : Int) - 1), D, rfl, hS, hR, hob, hD, (by omega), (by first | exact (zKO_fr hs (fun c j h => ((fr c j (by omega)).trans rfl)) (fun c j h => rfl)) | (clear hQ; grind [xu])), (by first | exact hg | (clear hQ; grind [xu])), hy, ⟨by omega, hm⟩, ?_⟩
    intro v84o p84hv p84bhv2
    refine And.intro (zA_61 hS) ⟨_, sn_K_nam.up (by decide), ?_⟩
    refine ⟨c, n, (typ s + D), k, (tyn s), v84o, (tyz s D), cc, ((D - 1 : Nat) : Int), rfl, hS, hR, (zStf hT (fun c j h1 h2 => ⟨((fr c j (by omega)).trans rfl), rfl⟩)), htx, (by first | exact (zRD_fr hX (fun c j h => ((fr c j (by omega)).trans rfl))) | (clear hQ; grind [xu])), (by first | exact hc | (clear hQ; grind [xu])), hpl1, (by omega), hob, hD, (by omega), ((fr k 0 (by omega)).trans s0), (by omega), (by omega), (by rcases yD with z | z; exact Or.inl ⟨by omega, z.2.2⟩; (refine Or.inr ⟨by omega, ?_, by omega, by omega⟩; rw [p84hv, z.2.2.2.1]; exact (((fr (k + 1) _ (by omega)).trans rfl).trans (srow (tyy s D).toNat (by omega)).1.1))), ((fr k 10 (by omega)).trans hcc), (by omega), (fun h9 => by rcases yD with z | z; (exfalso; omega); (rw [p84hv]; exact (((fr (k + 3) _ (by omega)).trans rfl).trans (srow (tyy s D).toNat (by omega)).1.2.2).trans (by omega))), (by omega), (Eq.trans (b := ((-1) : Int)) ((fr 61 3 (by omega)).trans hf0) (by omega)), ?_⟩
    intro v87o I87o L87o pl87o p87hg p87bhv p87bbfr p87bbbfrL p87bbbbhpl9 p87bbbbbhpb9
    rcases p87hg with w87 | w87
    · refine And.intro ⟨(by omega), (zRb rfl)⟩ ⟨fun h95 => ?_, (fun h95 => False.elim (by omega))⟩
      have t95 : tyn s ≤ 199 ∧ (tSk tSm c n (typ s + D)) ≤ n ∧ (typ s + D) < (tSk tSm c n (typ s + D)) := (by have z := tSm_s hc w87.1.1; have z2 := w87.1.2.2; exact ⟨by omega, z.2.1, z.1⟩)
      refine And.intro (zA_61 hS) (zrdR (v := some k) hob ?_)
      refine And.intro (zDX hD 0 rfl) (Exists.intro _ (And.intro (zinl_ok (zT2_16 3)) (And.intro rfl ?_)))
      refine And.intro (zDX hD 0 rfl) (Exists.intro _ (And.intro (zinl_ok (zT2_14 2)) (And.intro rfl ?_)))
      refine And.intro (by omega) ⟨(fun h1_106_2 => False.elim (by omega)), fun h1_106_2 => ?_⟩
      refine And.intro (zDX hD 0 rfl) (zrd (v := ((tyn s : Int) + 1)) w87.2.2.2.2.1 ?_)
      refine And.intro ⟨(by omega), (by omega)⟩ ⟨fun h9_106_2 => ?_, fun h9_106_2 => ?_⟩
      · refine And.intro (Or.inl rfl) ?_
        refine And.intro (zRb rfl) (zbt rfl ?_)
        refine And.intro ⟨(zRb rfl), (zRb rfl)⟩ (zbt rfl ?_)
        refine And.intro (zA_61 hS) ⟨_, sn_K_vals.up (by decide), ?_⟩
        refine ⟨c, n, (tSk tSm c n (typ s + D)), k, ((tyn s : Int) + 1), (v87o : Int), (tyn s), ((tKd c (typ s + D) (tSk tSm c n (typ s + D))).toNat), (tyx s), 0, cc, rfl, hS, hR, (zStf hT (fun c j h1 h2 => ⟨((p87bbfr c j (by omega) (by omega) (by omega) (by omega) (by omega) (by omega) (by omega) (by omega)).trans ((fr c j (by omega)).trans rfl)), ((p87bbbfrL c j (by omega)).trans rfl)⟩)), htx, (by first | exact (zRD_fr hX (fun c j h => ((p87bbfr c j (by omega) (by omega) (by omega) (by omega) (by omega) (by omega) (by omega) (by omega)).trans ((fr c j (by omega)).trans rfl)))) | (clear hQ; grind [xu])), (by first | exact hc | (clear hQ; grind [xu])), (Eq.trans (b := (((tSk tSm c n (typ s + D))) : Int)) w87.2.2.2.1 (by omega)), (tSm_s hc w87.1.1).2.1, ((p87bbfr 61 6 (by omega) (by omega) (by omega) (by omega) (by omega) (by omega) (by omega) (by omega)).trans ((fr 61 6 (by omega)).trans hnb)), (by omega), hob, hD, (by omega), w87.2.2.2.2.1, (by omega), (by omega), (w87.2.2.2.2.2.1.trans (by omega)), (by omega), ((p87bbfr 61 5 (by omega) (by omega) (by omega) (by omega) (by omega) (by omega) (by omega) (by omega)).trans ((fr 61 5 (by omega)).trans hxv)), (by omega), (Eq.trans (b := ((-1) : Int)) w87.2.2.1 (by omega)), ((p87bbfr k 10 (by omega) (by omega) (by omega) (by omega) (by omega) (by omega) (by omega) (by omega)).trans ((fr k 10 (by omega)).trans hcc)), (by have z := tSm_s hc w87.1.1; omega), (fun w hw => (w87.2.2.2.2.2.2.2.2.1 w hw).2), ?_⟩
        intro I128o L128o pl128o p128hf p128bhok p128bbfr p128bbbfrL p128bbbbhpl9 p128bbbbbhpb9
        have g128 : -1 ≤ tVz c n 0 (tKd c (typ s + D) (tSk tSm c n (typ s + D))).toNat (tSk tSm c n (typ s + D)) (tFv (tKd c (typ s + D) (tSk tSm c n (typ s + D))).toNat (tyx s)) ∧ tVz c n 0 (tKd c (typ s + D) (tSk tSm c n (typ s + D))).toNat (tSk tSm c n (typ s + D)) (tFv (tKd c (typ s + D) (tSk tSm c n (typ s + D))).toNat (tyx s)) ≤ 9000 := ⟨tVz_ge hc (tSm_s hc w87.1.1).2.1, tVz_le hc (tSm_s hc w87.1.1).2.1⟩
        refine And.intro (zA_61 hS) (zrd (v := (tVz c n 0 ((tKd c (typ s + D) (tSk tSm c n (typ s + D))).toNat) (tSk tSm c n (typ s + D)) (tFv ((tKd c (typ s + D) (tSk tSm c n (typ s + D))).toNat) (tyx s)))) p128hf ?_)
        refine And.intro ⟨(by omega), (zRb rfl)⟩ ⟨fun h136 => ?_, fun h136 => ?_⟩
        · refine And.intro (zA_61 hS) (zrd (v := pl128o) p128bbbbhpl9 ?_)
          refine And.intro (zA_61 hS) ⟨_, (zWi (by omega)), ?_⟩
          refine hQ _ _ _ ((pl128o + 1) : Int) ?_ ?_ (by omega) (fun c j h0 h1 h2 h3 h4 h5 h6 h7 h8 h9 h10 h11 => (zxcj h0 ((p128bbfr c j h0 h1 h2 h5 (fun w => h9 w.1) (fun w => h10 w.1) (fun w => h11 w.1)).trans ((p87bbfr c j h0 h1 h3 (fun w => h6 w.1) (fun w => h7 w.1) (fun w => h8 w.1) (fun w => h9 w.1) (fun w => h10 w.1)).trans ((fr c j h0).trans rfl))))) (fun c j h0 => ((p128bbbfrL c j (fun w => h0 w.1)).trans ((p87bbbfrL c j (fun w => h0 w.1)).trans rfl))) rfl (by omega)
          · first
            | (rw [tyA_d0 (by omega) (by have w := hDD (by omega); omega) (by omega)]
               exact zxe.trans (show _ = ((typ s : Nat) : Int) by omega))
            | (rw [tyA_nb hDD hD0 w87.1]
               exact w87.2.2)
            | (rw [tyA_y hDD hD46 hD0 w87.1]
               have em := tSm_s hc w87.1.1
               first
               | (rw [tyB_9 (show (tKd c (typ s + D) (tSk tSm c n (typ s + D))) = 9 by omega), tkX_0]
                  exact p120hf)
               | (have hz : tVz c n 0 (tKd c (typ s + D) (tSk tSm c n (typ s + D))).toNat (tSk tSm c n (typ s + D)) (tFv (tKd c (typ s + D) (tSk tSm c n (typ s + D))).toNat (tyx s)) ≠ -1 := by omega
                  rw [tyB_vf hc em.2.1 (show (tKd c (typ s + D) (tSk tSm c n (typ s + D))) ≠ 9 by omega) hz]
                  exact zxs (by omega) p128hf)
               | (have hz : tVz c n 0 (tKd c (typ s + D) (tSk tSm c n (typ s + D))).toNat (tSk tSm c n (typ s + D)) (tFv (tKd c (typ s + D) (tSk tSm c n (typ s + D))).toNat (tyx s)) = -1 := by omega
                  have y2 := p128bhok hz
                  first
                  | (rw [tyB_vn (show (tKd c (typ s + D) (tSk tSm c n (typ s + D))) ≠ 9 by omega) hz (by omega)]
                     exact (zxs (by omega) zxe).trans (show _ = (((tVp c n 0 (tKd c (typ s + D) (tSk tSm c n (typ s + D))).toNat (tSk tSm c n (typ s + D)) (tFv (tKd c (typ s + D) (tSk tSm c n (typ s + D))).toNat (tyx s))) : Nat) : Int) by omega))
                  | (rw [tyB_v (show (tKd c (typ s + D) (tSk tSm c n (typ s + D))) ≠ 9 by omega) hz (fun _ => by omega)]
                     exact (zxs (by omega) p128hf).trans hz)))
          · intro h9
            first
            | (exfalso
               rw [tyA_d0 (by omega) (by have w := hDD (by omega); omega) (by omega)] at h9
               exact tyF_f h9)
            | (exfalso
               rw [tyA_nb hDD hD0 w87.1] at h9
               exact tyF_f h9)
            | (rw [tyA_y hDD hD46 hD0 w87.1] at h9 ⊢
               have em := tSm_s hc w87.1.1
               first
               | (have hx : tlX c n (typ s + D + 2000 - tyk s) D (tSk tSm c n (typ s + D)) = -1 := by
                    rw [tyB_9 (show (tKd c (typ s + D) (tSk tSm c n (typ s + D))) = 9 by omega), tkX_0] at h9
                    exact h9
                  have y2 := p120bhok hx
                  have eb := tlX_b hc hx
                  have e9 : (tKd c (typ s + D) (tSk tSm c n (typ s + D))).toNat = 9 := by omega
                  rw [tyB_u (show (tKd c (typ s + D) (tSk tSm c n (typ s + D))) = 9 by omega) (tkX_0.trans hx), tkE_0]
                  refine ⟨zKO_U hs hcc (by omega) (by omega) (by omega) ((p120bbfr k 0 (by omega) (by omega) (by omega) (by omega) (by omega) (by omega) (by omega)).trans w87.2.2.2.2.1) y2.2.1 ⟨(p120bbfr (k + 1) _ (by omega) (by omega) (by omega) (by omega) (by omega) (by omega) (by omega)).trans (w87.2.2.2.2.2.1.trans (by omega)), (p120bbfr (k + 2) _ (by omega) (by omega) (by omega) (by omega) (by omega) (by omega) (by omega)).trans (w87.2.2.2.2.2.2.1.trans p84hv), (p120bbfr (k + 3) _ (by omega) (by omega) (by omega) (by omega) (by omega) (by omega) (by omega)).trans (by have z := w87.2.2.2.2.2.2.2.1; omega)⟩ y2.2.2.1
                    (fun w hw => (w87.2.2.2.2.2.2.2.2.2 w hw).trans (by rw [e9])) ⟨y2.2.2.2.1, y2.2.2.2.2.1⟩ ⟨(p120bbfr (k + 5) _ (by omega) (by omega) (by omega) (by omega) (by omega) (by omega) (by omega)).trans (w87.2.2.2.2.2.2.2.2.1 1 (by decide)).1, (p120bbfr (k + 6) _ (by omega) (by omega) (by omega) (by omega) (by omega) (by omega) (by omega)).trans (w87.2.2.2.2.2.2.2.2.1 1 (by decide)).2⟩ y2.2.2.2.2.2
                    (fun x j hx hj => (p120bbfr x j (by omega) (by omega) (by omega) (by omega) (by omega) (by omega) (by omega)).trans ((p87bbfr x j (by omega) (by omega) (by omega) (by omega) (by omega) (by omega) (by omega) (by omega)).trans ((fr x j (by omega)).trans rfl))) (fun x j hx hj => (p120bbfr x j (by omega) (by omega) (by omega) (by omega) (by omega) (by omega) (by omega)).trans ((p87bbfr x j (by omega) (by omega) (by omega) (by omega) (by omega) (by omega) (by omega) (by omega)).trans ((fr x j (by omega)).trans rfl))) (fun j hj => (p120bbfr (k + 7) j (by omega) (by omega) (by omega) (by omega) (by omega) (by omega) (by omega)).trans ((p87bbfr (k + 7) j (by omega) (by omega) (by omega) (by omega) (by omega) (by omega) (by omega) (by omega)).trans ((fr (k + 7) j (by omega)).trans rfl))) (fun j hj => p87bbbfrL (k + 4) j (by omega)), y2.1, (p120bbfr 61 5 (by omega) (by omega) (by omega) (by omega) (by omega) (by omega) (by omega)).trans ((p87bbfr 61 5 (by omega) (by omega) (by omega) (by omega) (by omega) (by omega) (by omega) (by omega)).trans ((fr 61 5 (by omega)).trans hxv)), hy⟩)
               | (have hz : tVz c n 0 (tKd c (typ s + D) (tSk tSm c n (typ s + D))).toNat (tSk tSm c n (typ s + D)) (tFv (tKd c (typ s + D) (tSk tSm c n (typ s + D))).toNat (tyx s)) = -1 := by omega
                  have y2 := p128bhok hz
                  have h10 : c (tVp c n 0 (tKd c (typ s + D) (tSk tSm c n (typ s + D))).toNat (tSk tSm c n (typ s + D)) (tFv (tKd c (typ s + D) (tSk tSm c n (typ s + D))).toNat (tyx s))) = 10 := by omega
                  rw [tyB_v (show (tKd c (typ s + D) (tSk tSm c n (typ s + D))) ≠ 9 by omega) hz (fun _ => h10)]
                  refine ⟨zKO_fr (zKO_O hs (a_ := (tKd c (typ s + D) (tSk tSm c n (typ s + D))).toNat) (by omega) (by omega) hcc ((p128bbfr k 0 (by omega) (by omega) (by omega) (by omega) (by omega) (by omega) (by omega)).trans w87.2.2.2.2.1) ((p128bbfr k 2 (by omega) (by omega) (by omega) (by omega) (by omega) (by omega) (by omega)).trans ((p87bbfr k 2 (by omega) (by omega) (by omega) (by omega) (by omega) (by omega) (by omega) (by omega)).trans ((fr k 2 (by omega)).trans s2))) ⟨(p128bbfr (k + 1) _ (by omega) (by omega) (by omega) (by omega) (by omega) (by omega) (by omega)).trans w87.2.2.2.2.2.1, (p128bbfr (k + 2) _ (by omega) (by omega) (by omega) (by omega) (by omega) (by omega) (by omega)).trans (w87.2.2.2.2.2.2.1.trans p84hv), (p128bbfr (k + 3) _ (by omega) (by omega) (by omega) (by omega) (by omega) (by omega) (by omega)).trans (by have z := w87.2.2.2.2.2.2.2.1; omega)⟩ ⟨y2.2.2.1, (by have y3 := y2.2.2.2.1; show _ ≤ (((tVp c n 0 (tKd c (typ s + D) (tSk tSm c n (typ s + D))).toNat (tSk tSm c n (typ s + D)) (tFv (tKd c (typ s + D) (tSk tSm c n (typ s + D))).toNat (tyx s))) + (1 - 0) : Nat) : Int); omega)⟩ y2.2.2.2.2
                    (fun w h1 h2 => (p128bbbfrL (k + 4) _ (by omega)).trans (w87.2.2.2.2.2.2.2.2.2 w h2)) (fun w h1 h2 => ⟨(p128bbfr (k + 5) _ (by omega) (by omega) (by omega) (by omega) (by omega) (by omega) (by omega)).trans (w87.2.2.2.2.2.2.2.2.1 w h2).1, (p128bbfr (k + 6) _ (by omega) (by omega) (by omega) (by omega) (by omega) (by omega) (by omega)).trans (w87.2.2.2.2.2.2.2.2.1 w h2).2⟩)
                    (fun x j hx hj => (p128bbfr x j (by omega) (by omega) (by omega) (by omega) (by omega) (by omega) (by omega)).trans ((p87bbfr x j (by omega) (by omega) (by omega) (by omega) (by omega) (by omega) (by omega) (by omega)).trans ((fr x j (by omega)).trans rfl))) (fun x j hx hj => (p128bbfr x j (by omega) (by omega) (by omega) (by omega) (by omega) (by omega) (by omega)).trans ((p87bbfr x j (by omega) (by omega) (by omega) (by omega) (by omega) (by omega) (by omega) (by omega)).trans ((fr x j (by omega)).trans rfl))) (fun j hj => (p128bbfr (k + 7) j (by omega) (by omega) (by omega) (by omega) (by omega) (by omega) (by omega)).trans ((p87bbfr (k + 7) j (by omega) (by omega) (by omega) (by omega) (by omega) (by omega) (by omega) (by omega)).trans ((fr (k + 7) j (by omega)).trans rfl))) (fun j hj => (p128bbbfrL (k + 4) j (by omega)).trans (p87bbbfrL (k + 4) j (by omega)))) (fun x j h => zxcj (by omega) rfl) (fun x j h => rfl), zxe.trans (show _ = (((tVp c n 0 (tKd c (typ s + D) (tSk tSm c n (typ s + D))).toNat (tSk tSm c n (typ s + D)) (tFv (tKd c (typ s + D) (tSk tSm c n (typ s + D))).toNat (tyx s))) + (1 - 0) : Nat) : Int) by omega), zxs (by omega) y2.2.1, w87.2.1.trans tyy_O.symm⟩)
               | (exfalso
                  have hz : tVz c n 0 (tKd c (typ s + D) (tSk tSm c n (typ s + D))).toNat (tSk tSm c n (typ s + D)) (tFv (tKd c (typ s + D) (tSk tSm c n (typ s + D))).toNat (tyx s)) ≠ -1 := by omega
                  rw [tyB_vf hc em.2.1 (show (tKd c (typ s + D) (tSk tSm c n (typ s + D))) ≠ 9 by omega) hz] at h9
                  exact hz h9)
               | (exfalso
                  have hz : tVz c n 0 (tKd c (typ s + D) (tSk tSm c n (typ s + D))).toNat (tSk tSm c n (typ s + D)) (tFv (tKd c (typ s + D) (tSk tSm c n (typ s + D))).toNat (tyx s)) = -1 := by omega
                  have y2 := p128bhok hz
                  rw [tyB_vn (show (tKd c (typ s + D) (tSk tSm c n (typ s + D))) ≠ 9 by omega) hz (by omega)] at h9
                  exact tyF_f h9))
        · refine And.intro (zA_61 hS) ⟨_, sn_K_peek.up (by decide), ?_⟩
          refine ⟨c, n, (tVp c n 0 (tKd c (typ s + D) (tSk tSm c n (typ s + D))).toNat (tSk tSm c n (typ s + D)) (tFv (tKd c (typ s + D) (tSk tSm c n (typ s + D))).toNat (tyx s))), rfl, hS, hR, htx, (by first | exact (zRD_fr hX (fun c j h => ((p128bbfr c j (by omega) (by omega) (by omega) (by omega) (by omega) (by omega) (by omega)).trans ((p87bbfr c j (by omega) (by omega) (by omega) (by omega) (by omega) (by omega) (by omega) (by omega)).trans ((fr c j (by omega)).trans rfl))))) | (clear hQ; grind [xu])), (by first | exact hc | (clear hQ; grind [xu])), (p128bhok (by omega)).1, (by have z := tVp_le (b := 0) hc (tSm_s hc w87.1.1).2.1 (tVz_p (show tVz c n 0 (tKd c (typ s + D) (tSk tSm c n (typ s + D))).toNat (tSk tSm c n (typ s + D)) (tFv (tKd c (typ s + D) (tSk tSm c n (typ s + D))).toNat (tyx s)) = -1 by omega)); omega), ?_⟩
          intro v140o p140hv p140bhv2
          refine And.intro ⟨(by omega), (zRb rfl)⟩ ⟨fun h145 => ?_, fun h145 => ?_⟩
          · refine And.intro (zA_61 hS) (zrd (v := pl128o) p128bbbbhpl9 ?_)
            refine And.intro (zA_61 hS) ⟨_, (zWi (by omega)), ?_⟩
            refine hQ _ _ _ ((pl128o + 1) : Int) ?_ ?_ (by omega) (fun c j h0 h1 h2 h3 h4 h5 h6 h7 h8 h9 h10 h11 => (zxcj h0 ((p128bbfr c j h0 h1 h2 h5 (fun w => h9 w.1) (fun w => h10 w.1) (fun w => h11 w.1)).trans ((p87bbfr c j h0 h1 h3 (fun w => h6 w.1) (fun w => h7 w.1) (fun w => h8 w.1) (fun w => h9 w.1) (fun w => h10 w.1)).trans ((fr c j h0).trans rfl))))) (fun c j h0 => ((p128bbbfrL c j (fun w => h0 w.1)).trans ((p87bbbfrL c j (fun w => h0 w.1)).trans rfl))) rfl (by omega)
            · first
              | (rw [tyA_d0 (by omega) (by have w := hDD (by omega); omega) (by omega)]
                 exact zxe.trans (show _ = ((typ s : Nat) : Int) by omega))
              | (rw [tyA_nb hDD hD0 w87.1]
                 exact w87.2.2)
              | (rw [tyA_y hDD hD46 hD0 w87.1]
                 have em := tSm_s hc w87.1.1
                 first
                 | (rw [tyB_9 (show (tKd c (typ s + D) (tSk tSm c n (typ s + D))) = 9 by omega), tkX_0]
                    exact p120hf)
                 | (have hz : tVz c n 0 (tKd c (typ s + D) (tSk tSm c n (typ s + D))).toNat (tSk tSm c n (typ s + D)) (tFv (tKd c (typ s + D) (tSk tSm c n (typ s + D))).toNat (tyx s)) ≠ -1 := by omega
                    rw [tyB_vf hc em.2.1 (show (tKd c (typ s + D) (tSk tSm c n (typ s + D))) ≠ 9 by omega) hz]
                    exact zxs (by omega) p128hf)
                 | (have hz : tVz c n 0 (tKd c (typ s + D) (tSk tSm c n (typ s + D))).toNat (tSk tSm c n (typ s + D)) (tFv (tKd c (typ s + D) (tSk tSm c n (typ s + D))).toNat (tyx s)) = -1 := by omega
                    have y2 := p128bhok hz
                    first
                    | (rw [tyB_vn (show (tKd c (typ s + D) (tSk tSm c n (typ s + D))) ≠ 9 by omega) hz (by omega)]
                       exact (zxs (by omega) zxe).trans (show _ = (((tVp c n 0 (tKd c (typ s + D) (tSk tSm c n (typ s + D))).toNat (tSk tSm c n (typ s + D)) (tFv (tKd c (typ s + D) (tSk tSm c n (typ s + D))).toNat (tyx s))) : Nat) : Int) by omega))
                    | (rw [tyB_v (show (tKd c (typ s + D) (tSk tSm c n (typ s + D))) ≠ 9 by omega) hz (fun _ => by omega)]
                       exact (zxs (by omega) p128hf).trans hz)))
            · intro h9
              first
              | (exfalso
                 rw [tyA_d0 (by omega) (by have w := hDD (by omega); omega) (by omega)] at h9
                 exact tyF_f h9)
              | (exfalso
                 rw [tyA_nb hDD hD0 w87.1] at h9
                 exact tyF_f h9)
              | (rw [tyA_y hDD hD46 hD0 w87.1] at h9 ⊢
                 have em := tSm_s hc w87.1.1
                 first
                 | (have hx : tlX c n (typ s + D + 2000 - tyk s) D (tSk tSm c n (typ s + D)) = -1 := by
                      rw [tyB_9 (show (tKd c (typ s + D) (tSk tSm c n (typ s + D))) = 9 by omega), tkX_0] at h9
                      exact h9
                    have y2 := p120bhok hx
                    have eb := tlX_b hc hx
                    have e9 : (tKd c (typ s + D) (tSk tSm c n (typ s + D))).toNat = 9 := by omega
                    rw [tyB_u (show (tKd c (typ s + D) (tSk tSm c n (typ s + D))) = 9 by omega) (tkX_0.trans hx), tkE_0]
                    refine ⟨zKO_U hs hcc (by omega) (by omega) (by omega) ((p120bbfr k 0 (by omega) (by omega) (by omega) (by omega) (by omega) (by omega) (by omega)).trans w87.2.2.2.2.1) y2.2.1 ⟨(p120bbfr (k + 1) _ (by omega) (by omega) (by omega) (by omega) (by omega) (by omega) (by omega)).trans (w87.2.2.2.2.2.1.trans (by omega)), (p120bbfr (k + 2) _ (by omega) (by omega) (by omega) (by omega) (by omega) (by omega) (by omega)).trans (w87.2.2.2.2.2.2.1.trans p84hv), (p120bbfr (k + 3) _ (by omega) (by omega) (by omega) (by omega) (by omega) (by omega) (by omega)).trans (by have z := w87.2.2.2.2.2.2.2.1; omega)⟩ y2.2.2.1
                      (fun w hw => (w87.2.2.2.2.2.2.2.2.2 w hw).trans (by rw [e9])) ⟨y2.2.2.2.1, y2.2.2.2.2.1⟩ ⟨(p120bbfr (k + 5) _ (by omega) (by omega) (by omega) (by omega) (by omega) (by omega) (by omega)).trans (w87.2.2.2.2.2.2.2.2.1 1 (by decide)).1, (p120bbfr (k + 6) _ (by omega) (by omega) (by omega) (by omega) (by omega) (by omega) (by omega)).trans (w87.2.2.2.2.2.2.2.2.1 1 (by decide)).2⟩ y2.2.2.2.2.2
                      (fun x j hx hj => (p120bbfr x j (by omega) (by omega) (by omega) (by omega) (by omega) (by omega) (by omega)).trans ((p87bbfr x j (by omega) (by omega) (by omega) (by omega) (by omega) (by omega) (by omega) (by omega)).trans ((fr x j (by omega)).trans rfl))) (fun x j hx hj => (p120bbfr x j (by omega) (by omega) (by omega) (by omega) (by omega) (by omega) (by omega)).trans ((p87bbfr x j (by omega) (by omega) (by omega) (by omega) (by omega) (by omega) (by omega) (by omega)).trans ((fr x j (by omega)).trans rfl))) (fun j hj => (p120bbfr (k + 7) j (by omega) (by omega) (by omega) (by omega) (by omega) (by omega) (by omega)).trans ((p87bbfr (k + 7) j (by omega) (by omega) (by omega) (by omega) (by omega) (by omega) (by omega) (by omega)).trans ((fr (k + 7) j (by omega)).trans rfl))) (fun j hj => p87bbbfrL (k + 4) j (by omega)), y2.1, (p120bbfr 61 5 (by omega) (by omega) (by omega) (by omega) (by omega) (by omega) (by omega)).trans ((p87bbfr 61 5 (by omega) (by omega) (by omega) (by omega) (by omega) (by omega) (by omega) (by omega)).trans ((fr 61 5 (by omega)).trans hxv)), hy⟩)
                 | (have hz : tVz c n 0 (tKd c (typ s + D) (tSk tSm c n (typ s + D))).toNat (tSk tSm c n (typ s + D)) (tFv (tKd c (typ s + D) (tSk tSm c n (typ s + D))).toNat (tyx s)) = -1 := by omega
                    have y2 := p128bhok hz
                    have h10 : c (tVp c n 0 (tKd c (typ s + D) (tSk tSm c n (typ s + D))).toNat (tSk tSm c n (typ s + D)) (tFv (tKd c (typ s + D) (tSk tSm c n (typ s + D))).toNat (tyx s))) = 10 := by omega
                    rw [tyB_v (show (tKd c (typ s + D) (tSk tSm c n (typ s + D))) ≠ 9 by omega) hz (fun _ => h10)]
                    refine ⟨zKO_fr (zKO_O hs (a_ := (tKd c (typ s + D) (tSk tSm c n (typ s + D))).toNat) (by omega) (by omega) hcc ((p128bbfr k 0 (by omega) (by omega) (by omega) (by omega) (by omega) (by omega) (by omega)).trans w87.2.2.2.2.1) ((p128bbfr k 2 (by omega) (by omega) (by omega) (by omega) (by omega) (by omega) (by omega)).trans ((p87bbfr k 2 (by omega) (by omega) (by omega) (by omega) (by omega) (by omega) (by omega) (by omega)).trans ((fr k 2 (by omega)).trans s2))) ⟨(p128bbfr (k + 1) _ (by omega) (by omega) (by omega) (by omega) (by omega) (by omega) (by omega)).trans w87.2.2.2.2.2.1, (p128bbfr (k + 2) _ (by omega) (by omega) (by omega) (by omega) (by omega) (by omega) (by omega)).trans (w87.2.2.2.2.2.2.1.trans p84hv), (p128bbfr (k + 3) _ (by omega) (by omega) (by omega) (by omega) (by omega) (by omega) (by omega)).trans (by have z := w87.2.2.2.2.2.2.2.1; omega)⟩ ⟨y2.2.2.1, (by have y3 := y2.2.2.2.1; show _ ≤ (((tVp c n 0 (tKd c (typ s + D) (tSk tSm c n (typ s + D))).toNat (tSk tSm c n (typ s + D)) (tFv (tKd c (typ s + D) (tSk tSm c n (typ s + D))).toNat (tyx s))) + (1 - 0) : Nat) : Int); omega)⟩ y2.2.2.2.2
                      (fun w h1 h2 => (p128bbbfrL (k + 4) _ (by omega)).trans (w87.2.2.2.2.2.2.2.2.2 w h2)) (fun w h1 h2 => ⟨(p128bbfr (k + 5) _ (by omega) (by omega) (by omega) (by omega) (by omega) (by omega) (by omega)).trans (w87.2.2.2.2.2.2.2.2.1 w h2).1, (p128bbfr (k + 6) _ (by omega) (by omega) (by omega) (by omega) (by omega) (by omega) (by omega)).trans (w87.2.2.2.2.2.2.2.2.1 w h2).2⟩)
                      (fun x j hx hj => (p128bbfr x j (by omega) (by omega) (by omega) (by omega) (by omega) (by omega) (by omega)).trans ((p87bbfr x j (by omega) (by omega) (by omega) (by omega) (by omega) (by omega) (by omega) (by omega)).trans ((fr x j (by omega)).trans rfl))) (fun x j hx hj => (p128bbfr x j (by omega) (by omega) (by omega) (by omega) (by omega) (by omega) (by omega)).trans ((p87bbfr x j (by omega) (by omega) (by omega) (by omega) (by omega) (by omega) (by omega) (by omega)).trans ((fr x j (by omega)).trans rfl))) (fun j hj => (p128bbfr (k + 7) j (by omega) (by omega) (by omega) (by omega) (by omega) (by omega) (by omega)).trans ((p87bbfr (k + 7) j (by omega) (by omega) (by omega) (by omega) (by omega) (by omega) (by omega) (by omega)).trans ((fr (k + 7) j (by omega)).trans rfl))) (fun j hj => (p128bbbfrL (k + 4) j (by omega)).trans (p87bbbfrL (k + 4) j (by omega)))) (fun x j h => zxcj (by omega) rfl) (fun x j h => rfl), zxe.trans (show _ = (((tVp c n 0 (tKd c (typ s + D) (tSk tSm c n (typ s + D))).toNat (tSk tSm c n (typ s + D)) (tFv (tKd c (typ s + D) (tSk tSm c n (typ s + D))).toNat (tyx s))) + (1 - 0) : Nat) : Int) by omega), zxs (by omega) y2.2.1, w87.2.1.trans tyy_O.symm⟩)
                 | (exfalso
                    have hz : tVz c n 0 (tKd c (typ s + D) (tSk tSm c n (typ s + D))).toNat (tSk tSm c n (typ s + D)) (tFv (tKd c (typ s + D) (tSk tSm c n (typ s + D))).toNat (tyx s)) ≠ -1 := by omega
                    rw [tyB_vf hc em.2.1 (show (tKd c (typ s + D) (tSk tSm c n (typ s + D))) ≠ 9 by omega) hz] at h9
                    exact hz h9)
                 | (exfalso
                    have hz : tVz c n 0 (tKd c (typ s + D) (tSk tSm c n (typ s + D))).toNat (tSk tSm c n (typ s + D)) (tFv (tKd c (typ s + D) (tSk tSm c n (typ s + D))).toNat (tyx s)) = -1 := by omega
                    have y2 := p128bhok hz
                    rw [tyB_vn (show (tKd c (typ s + D) (tSk tSm c n (typ s + D))) ≠ 9 by omega) hz (by omega)] at h9
                    exact tyF_f h9))
          · refine And.intro (zA_61 hS) (zrd (v := pl128o) p128bbbbhpl9 ?_)
            refine And.intro (zA_61 hS) (Exists.intro _ (And.intro (zinl_ok (zT9_2 3)) (And.intro rfl ?_)))
            refine And.intro (zA_61 hS) (zrd (v := (tVz c n 0 ((tKd c (typ s + D) (tSk tSm c n (typ s + D))).toNat) (tSk tSm c n (typ s + D)) (tFv ((tKd c (typ s + D) (tSk tSm c n (typ s + D))).toNat) (tyx s)))) p128hf ?_)
            refine And.intro ⟨(by omega), (zRb rfl)⟩ ⟨(fun h5_153 => False.elim (by omega)), fun h5_153 => ?_⟩
            refine And.intro (zA_61 hS) ⟨_, (zWi (by omega)), ?_⟩
            refine And.intro (zA_61 hS) (zrd (v := pl128o) p128bbbbhpl9 ?_)
            refine And.intro (zA_61 hS) ⟨_, (zWi (by omega)), ?_⟩
            refine hQ _ _ _ ((pl128o + 1) : Int) ?_ ?_ (by omega) (fun c j h0 h1 h2 h3 h4 h5 h6 h7 h8 h9 h10 h11 => (zxcj h0 (zxcj h1 ((p128bbfr c j h0 h1 h2 h5 (fun w => h9 w.1) (fun w => h10 w.1) (fun w => h11 w.1)).trans ((p87bbfr c j h0 h1 h3 (fun w => h6 w.1) (fun w => h7 w.1) (fun w => h8 w.1) (fun w => h9 w.1) (fun w => h10 w.1)).trans ((fr c j h0).trans rfl)))))) (fun c j h0 => ((p128bbbfrL c j (fun w => h0 w.1)).trans ((p87bbbfrL c j (fun w => h0 w.1)).trans rfl))) rfl (by omega)
            · first
              | (rw [tyA_d0 (by omega) (by have w := hDD (by omega); omega) (by omega)]
                 exact zxe.trans (show _ = ((typ s : Nat) : Int) by omega))
              | (rw [tyA_nb hDD hD0 w87.1]
                 exact w87.2.2)
              | (rw [tyA_y hDD hD46 hD0 w87.1]
                 have em := tSm_s hc w87.1.1
                 first
                 | (rw [tyB_9 (show (tKd c (typ s + D) (tSk tSm c n (typ s + D))) = 9 by omega), tkX_0]
                    exact p120hf)
                 | (have hz : tVz c n 0 (tKd c (typ s + D) (tSk tSm c n (typ s + D))).toNat (tSk tSm c n (typ s + D)) (tFv (tKd c (typ s + D) (tSk tSm c n (typ s + D))).toNat (tyx s)) ≠ -1 := by omega
                    rw [tyB_vf hc em.2.1 (show (tKd c (typ s + D) (tSk tSm c n (typ s + D))) ≠ 9 by omega) hz]
                    exact zxs (by omega) p128hf)
                 | (have hz : tVz c n 0 (tKd c (typ s + D) (tSk tSm c n (typ s + D))).toNat (tSk tSm c n (typ s + D)) (tFv (tKd c (typ s + D) (tSk tSm c n (typ s + D))).toNat (tyx s)) = -1 := by omega
                    have y2 := p128bhok hz
                    first
                    | (rw [tyB_vn (show (tKd c (typ s + D) (tSk tSm c n (typ s + D))) ≠ 9 by omega) hz (by omega)]
                       exact (zxs (by omega) zxe).trans (show _ = (((tVp c n 0 (tKd c (typ s + D) (tSk tSm c n (typ s + D))).toNat (tSk tSm c n (typ s + D)) (tFv (tKd c (typ s + D) (tSk tSm c n (typ s + D))).toNat (tyx s))) : Nat) : Int) by omega))
                    | (rw [tyB_v (show (tKd c (typ s + D) (tSk tSm c n (typ s + D))) ≠ 9 by omega) hz (fun _ => by omega)]
                       exact (zxs (by omega) p128hf).trans hz)))
            · intro h9
              first
              | (exfalso
                 rw [tyA_d0 (by omega) (by have w := hDD (by omega); omega) (by omega)] at h9
                 exact tyF_f h9)
              | (exfalso
                 rw [tyA_nb hDD hD0 w87.1] at h9
                 exact tyF_f h9)
              | (rw [tyA_y hDD hD46 hD0 w87.1] at h9 ⊢
                 have em := tSm_s hc w87.1.1
                 first
                 | (have hx : tlX c n (typ s + D + 2000 - tyk s) D (tSk tSm c n (typ s + D)) = -1 := by
                      rw [tyB_9 (show (tKd c (typ s + D) (tSk tSm c n (typ s + D))) = 9 by omega), tkX_0] at h9
                      exact h9
                    have y2 := p120bhok hx
                    have eb := tlX_b hc hx
                    have e9 : (tKd c (typ s + D) (tSk tSm c n (typ s + D))).toNat = 9 := by omega
                    rw [tyB_u (show (tKd c (typ s + D) (tSk tSm c n (typ s + D))) = 9 by omega) (tkX_0.trans hx), tkE_0]
                    refine ⟨zKO_U hs hcc (by omega) (by omega) (by omega) ((p120bbfr k 0 (by omega) (by omega) (by omega) (by omega) (by omega) (by omega) (by omega)).trans w87.2.2.2.2.1) y2.2.1 ⟨(p120bbfr (k + 1) _ (by omega) (by omega) (by omega) (by omega) (by omega) (by omega) (by omega)).trans (w87.2.2.2.2.2.1.trans (by omega)), (p120bbfr (k + 2) _ (by omega) (by omega) (by omega) (by omega) (by omega) (by omega) (by omega)).trans (w87.2.2.2.2.2.2.1.trans p84hv), (p120bbfr (k + 3) _ (by omega) (by omega) (by omega) (by omega) (by omega) (by omega) (by omega)).trans (by have z := w87.2.2.2.2.2.2.2.1; omega)⟩ y2.2.2.1
                      (fun w hw => (w87.2.2.2.2.2.2.2.2.2 w hw).trans (by rw [e9])) ⟨y2.2.2.2.1, y2.2.2.2.2.1⟩ ⟨(p120bbfr (k + 5) _ (by omega) (by omega) (by omega) (by omega) (by omega) (by omega) (by omega)).trans (w87.2.2.2.2.2.2.2.2.1 1 (by decide)).1, (p120bbfr (k + 6) _ (by omega) (by omega) (by omega) (by omega) (by omega) (by omega) (by omega)).trans (w87.2.2.2.2.2.2.2.2.1 1 (by decide)).2⟩ y2.2.2.2.2.2
                      (fun x j hx hj => (p120bbfr x j (by omega) (by omega) (by omega) (by omega) (by omega) (by omega) (by omega)).trans ((p87bbfr x j (by omega) (by omega) (by omega) (by omega) (by omega) (by omega) (by omega) (by omega)).trans ((fr x j (by omega)).trans rfl))) (fun x j hx hj => (p120bbfr x j (by omega) (by omega) (by omega) (by omega) (by omega) (by omega) (by omega)).trans ((p87bbfr x j (by omega) (by omega) (by omega) (by omega) (by omega) (by omega) (by omega) (by omega)).trans ((fr x j (by omega)).trans rfl))) (fun j hj => (p120bbfr (k + 7) j (by omega) (by omega) (by omega) (by omega) (by omega) (by omega) (by omega)).trans ((p87bbfr (k + 7) j (by omega) (by omega) (by omega) (by omega) (by omega) (by omega) (by omega) (by omega)).trans ((fr (k + 7) j (by omega)).trans rfl))) (fun j hj => p87bbbfrL (k + 4) j (by omega)), y2.1, (p120bbfr 61 5 (by omega) (by omega) (by omega) (by omega) (by omega) (by omega) (by omega)).trans ((p87bbfr 61 5 (by omega) (by omega) (by omega) (by omega) (by omega) (by omega) (by omega) (by omega)).trans ((fr 61 5 (by omega)).trans hxv)), hy⟩)
                 | (have hz : tVz c n 0 (tKd c (typ s + D) (tSk tSm c n (typ s + D))).toNat (tSk tSm c n (typ s + D)) (tFv (tKd c (typ s + D) (tSk tSm c n (typ s + D))).toNat (tyx s)) = -1 := by omega
                    have y2 := p128bhok hz
                    have h10 : c (tVp c n 0 (tKd c (typ s + D) (tSk tSm c n (typ s + D))).toNat (tSk tSm c n (typ s + D)) (tFv (tKd c (typ s + D) (tSk tSm c n (typ s + D))).toNat (tyx s))) = 10 := by omega
                    rw [tyB_v (show (tKd c (typ s + D) (tSk tSm c n (typ s + D))) ≠ 9 by omega) hz (fun _ => h10)]
                    refine ⟨zKO_fr (zKO_O hs (a_ := (tKd c (typ s + D) (tSk tSm c n (typ s + D))).toNat) (by omega) (by omega) hcc ((p128bbfr k 0 (by omega) (by omega) (by omega) (by omega) (by omega) (by omega) (by omega)).trans w87.2.2.2.2.1) ((p128bbfr k 2 (by omega) (by omega) (by omega) (by omega) (by omega) (by omega) (by omega)).trans ((p87bbfr k 2 (by omega) (by omega) (by omega) (by omega) (by omega) (by omega) (by omega) (by omega)).trans ((fr k 2 (by omega)).trans s2))) ⟨(p128bbfr (k + 1) _ (by omega) (by omega) (by omega) (by omega) (by omega) (by omega) (by omega)).trans w87.2.2.2.2.2.1, (p128bbfr (k + 2) _ (by omega) (by omega) (by omega) (by omega) (by omega) (by omega) (by omega)).trans (w87.2.2.2.2.2.2.1.trans p84hv), (p128bbfr (k + 3) _ (by omega) (by omega) (by omega) (by omega) (by omega) (by omega) (by omega)).trans (by have z := w87.2.2.2.2.2.2.2.1; omega)⟩ ⟨y2.2.2.1, (by have y3 := y2.2.2.2.1; show _ ≤ (((tVp c n 0 (tKd c (typ s + D) (tSk tSm c n (typ s + D))).toNat (tSk tSm c n (typ s + D)) (tFv (tKd c (typ s + D) (tSk tSm c n (typ s + D))).toNat (tyx s))) + (1 - 0) : Nat) : Int); omega)⟩ y2.2.2.2.2
                      (fun w h1 h2 => (p128bbbfrL (k + 4) _ (by omega)).trans (w87.2.2.2.2.2.2.2.2.2 w h2)) (fun w h1 h2 => ⟨(p128bbfr (k + 5) _ (by omega) (by omega) (by omega) (by omega) (by omega) (by omega) (by omega)).trans (w87.2.2.2.2.2.2.2.2.1 w h2).1, (p128bbfr (k + 6) _ (by omega) (by omega) (by omega) (by omega) (by omega) (by omega) (by omega)).trans (w87.2.2.2.2.2.2.2.2.1 w h2).2⟩)
                      (fun x j hx hj => (p128bbfr x j (by omega) (by omega) (by omega) (by omega) (by omega) (by omega) (by omega)).trans ((p87bbfr x j (by omega) (by omega) (by omega) (by omega) (by omega) (by omega) (by omega) (by omega)).trans ((fr x j (by omega)).trans rfl))) (fun x j hx hj => (p128bbfr x j (by omega) (by omega) (by omega) (by omega) (by omega) (by omega) (by omega)).trans ((p87bbfr x j (by omega) (by omega) (by omega) (by omega) (by omega) (by omega) (by omega) (by omega)).trans ((fr x j (by omega)).trans rfl))) (fun j hj => (p128bbfr (k + 7) j (by omega) (by omega) (by omega) (by omega) (by omega) (by omega) (by omega)).trans ((p87bbfr (k + 7) j (by omega) (by omega) (by omega) (by omega) (by omega) (by omega) (by omega) (by omega)).trans ((fr (k + 7) j (by omega)).trans rfl))) (fun j hj => (p128bbbfrL (k + 4) j (by omega)).trans (p87bbbfrL (k + 4) j (by omega)))) (fun x j h => zxcj (by omega) rfl) (fun x j h => rfl), zxe.trans (show _ = (((tVp c n 0 (tKd c (typ s + D) (tSk tSm c n (typ s + D))).toNat (tSk tSm c n (typ s + D)) (tFv (tKd c (typ s + D) (tSk tSm c n (typ s + D))).toNat (tyx s))) + (1 - 0) : Nat) : Int) by omega), zxs (by omega) y2.2.1, w87.2.1.trans tyy_O.symm⟩)
                 | (exfalso
                    have hz : tVz c n 0 (tKd c (typ s + D) (tSk tSm c n (typ s + D))).toNat (tSk tSm c n (typ s + D)) (tFv (tKd c (typ s + D) (tSk tSm c n (typ s + D))).toNat (tyx s)) ≠ -1 := by omega
                    rw [tyB_vf hc em.2.1 (show (tKd c (typ s + D) (tSk tSm c n (typ s + D))) ≠ 9 by omega) hz] at h9
                    exact hz h9)
                 | (exfalso
                    have hz : tVz c n 0 (tKd c (typ s + D) (tSk tSm c n (typ s + D))).toNat (tSk tSm c n (typ s + D)) (tFv (tKd c (typ s + D) (tSk tSm c n (typ s + D))).toNat (tyx s)) = -1 := by omega
                    have y2 := p128bhok hz
                    rw [tyB_vn (show (tKd c (typ s + D) (tSk tSm c n (typ s + D))) ≠ 9 by omega) hz (by omega)] at h9
                    exact tyF_f h9))
      · refine And.intro (Or.inr rfl) ?_
        refine And.intro (zRb rfl) (zbf rfl ?_)
        refine And.intro (zDX hD 0 rfl) (zrdR (v := some (k + 1)) (zDR hD 0 rfl) ?_)
        refine And.intro (zDP hD 1 rfl rfl (by omega) (by omega)) (fun v13_106 e13_106 r13_106 => ?_)
        have f13_106 : v13_106 = (tKd c (typ s + D) (tSk tSm c n (typ s + D))) := (e13_106.trans ((congrArg (I87o (k + 1)) (by omega)).trans w87.2.2.2.2.2.1))
        refine And.intro ⟨r13_106, (zRb rfl)⟩ ⟨fun h111 => ?_, fun h111 => ?_⟩
        · refine And.intro (zA_61 hS) ⟨_, sn_K_vals.up (by decide), ?_⟩
          refine ⟨c, n, (tSk tSm c n (typ s + D)), k, ((tyn s : Int) + 1), (v87o : Int), (tyn s), ((tKd c (typ s + D) (tSk tSm c n (typ s + D))).toNat), (tyx s), 0, cc, rfl, hS, hR, (zStf hT (fun c j h1 h2 => ⟨((p87bbfr c j (by omega) (by omega) (by omega) (by omega) (by omega) (by omega) (by omega) (by omega)).trans ((fr c j (by omega)).trans rfl)), ((p87bbbfrL c j (by omega)).trans rfl)⟩)), htx, (by first | exact (zRD_fr hX (fun c j h => ((p87bbfr c j (by omega) (by omega) (by omega) (by omega) (by omega) (by omega) (by omega) (by omega)).trans ((fr c j (by omega)).trans rfl)))) | (clear hQ; grind [xu])), (by first | exact hc | (clear hQ; grind [xu])), (Eq.trans (b := (((tSk tSm c n (typ s + D))) : Int)) w87.2.2.2.1 (by omega)), (tSm_s hc w87.1.1).2.1, ((p87bbfr 61 6 (by omega) (by omega) (by omega) (by omega) (by omega) (by omega) (by omega) (by omega)).trans ((fr 61 6 (by omega)).trans hnb)), (by omega), hob, hD, (by omega), w87.2.2.2.2.1, (by omega), (by omega), (w87.2.2.2.2.2.1.trans (by omega)), (by omega), ((p87bbfr 61 5 (by omega) (by omega) (by omega) (by omega) (by omega) (by omega) (by omega) (by omega)).trans ((fr 61 5 (by omega)).trans hxv)), (by omega), (Eq.trans (b := ((-1) : Int)) w87.2.2.1 (by omega)), ((p87bbfr k 10 (by omega) (by omega) (by omega) (by omega) (by omega) (by omega) (by omega) (by omega)).trans ((fr k 10 (by omega)).trans hcc)), (by have z := tSm_s hc w87.1.1; omega), (fun w hw => (w87.2.2.2.2.2.2.2.2.1 w hw).2), ?_⟩
          intro I128o L128o pl128o p128hf p128bhok p128bbfr p128bbbfrL p128bbbbhpl9 p128bbbbbhpb9
          have g128 : -1 ≤ tVz c n 0 (tKd c (typ s + D) (tSk tSm c n (typ s + D))).toNat (tSk tSm c n (typ s + D)) (tFv (tKd c (typ s + D) (tSk tSm c n (typ s + D))).toNat (tyx s)) ∧ tVz c n 0 (tKd c (typ s + D) (tSk tSm c n (typ s + D))).toNat (tSk tSm c n (typ s + D)) (tFv (tKd c (typ s + D) (tSk tSm c n (typ s + D))).toNat (tyx s)) ≤ 9000 := ⟨tVz_ge hc (tSm_s hc w87.1.1).2.1, tVz_le hc (tSm_s hc w87.1.1).2.1⟩
          refine And.intro (zA_61 hS) (zrd (v := (tVz c n 0 ((tKd c (typ s + D) (tSk tSm c n (typ s + D))).toNat) (tSk tSm c n (typ s + D)) (tFv ((tKd c (typ s + D) (tSk tSm c n (typ s + D))).toNat) (tyx s)))) p128hf ?_)
          refine And.intro ⟨(by omega), (zRb rfl)⟩ ⟨fun h136 => ?_, fun h136 => ?_⟩
          · refine And.intro (zA_61 hS) (zrd (v := pl128o) p128bbbbhpl9 ?_)
            refine And.intro (zA_61 hS) ⟨_, (zWi (by omega)), ?_⟩
            refine hQ _ _ _ ((pl128o + 1) : Int) ?_ ?_ (by omega) (fun c j h0 h1 h2 h3 h4 h5 h6 h7 h8 h9 h10 h11 => (zxcj h0 ((p128bbfr c j h0 h1 h2 h5 (fun w => h9 w.1) (fun w => h10 w.1) (fun w => h11 w.1)).trans ((p87bbfr c j h0 h1 h3 (fun w => h6 w.1) (fun w => h7 w.1) (fun w => h8 w.1) (fun w => h9 w.1) (fun w => h10 w.1)).trans ((fr c j h0).trans rfl))))) (fun c j h0 => ((p128bbbfrL c j (fun w => h0 w.1)).trans ((p87bbbfrL c j (fun w => h0 w.1)).trans rfl))) rfl (by omega)
            · first
              | (rw [tyA_d0 (by omega) (by have w := hDD (by omega); omega) (by omega)]
                 exact zxe.trans (show _ = ((typ s : Nat) : Int) by omega))
              | (rw [tyA_nb hDD hD0 w87.1]
                 exact w87.2.2)
              | (rw [tyA_y hDD hD46 hD0 w87.1]
                 have em := tSm_s hc w87.1.1
                 first
                 | (rw [tyB_9 (show (tKd c (typ s + D) (tSk tSm c n (typ s + D))) = 9 by omega), tkX_0]
                    exact p120hf)
                 | (have hz : tVz c n 0 (tKd c (typ s + D) (tSk tSm c n (typ s + D))).toNat (tSk tSm c n (typ s + D)) (tFv (tKd c (typ s + D) (tSk tSm c n (typ s + D))).toNat (tyx s)) ≠ -1 := by omega
                    rw [tyB_vf hc em.2.1 (show (tKd c (typ s + D) (tSk tSm c n (typ s + D))) ≠ 9 by omega) hz]
                    exact zxs (by omega) p128hf)
                 | (have hz : tVz c n 0 (tKd c (typ s + D) (tSk tSm c n (typ s + D))).toNat (tSk tSm c n (typ s + D)) (tFv (tKd c (typ s + D) (tSk tSm c n (typ s + D))).toNat (tyx s)) = -1 := by omega
                    have y2 := p128bhok hz
                    first
                    | (rw [tyB_vn (show (tKd c (typ s + D) (tSk tSm c n (typ s + D))) ≠ 9 by omega) hz (by omega)]
                       exact (zxs (by omega) zxe).trans (show _ = (((tVp c n 0 (tKd c (typ s + D) (tSk tSm c n (typ s + D))).toNat (tSk tSm c n (typ s + D)) (tFv (tKd c (typ s + D) (tSk tSm c n (typ s + D))).toNat (tyx s))) : Nat) : Int) by omega))
                    | (rw [tyB_v (show (tKd c (typ s + D) (tSk tSm c n (typ s + D))) ≠ 9 by omega) hz (fun _ => by omega)]
                       exact (zxs (by omega) p128hf).trans hz)))
            · intro h9
              first
              | (exfalso
                 rw [tyA_d0 (by omega) (by have w := hDD (by omega); omega) (by omega)] at h9
                 exact tyF_f h9)
              | (exfalso
                 rw [tyA_nb hDD hD0 w87.1] at h9
                 exact tyF_f h9)
              | (rw [tyA_y hDD hD46 hD0 w87.1] at h9 ⊢
                 have em := tSm_s hc w87.1.1
                 first
                 | (have hx : tlX c n (typ s + D + 2000 - tyk s) D (tSk tSm c n (typ s + D)) = -1 := by
                      rw [tyB_9 (show (tKd c (typ s + D) (tSk tSm c n (typ s + D))) = 9 by omega), tkX_0] at h9
                      exact h9
                    have y2 := p120bhok hx
                    have eb := tlX_b hc hx
                    have e9 : (tKd c (typ s + D) (tSk tSm c n (typ s + D))).toNat = 9 := by omega
                    rw [tyB_u (show (tKd c (typ s + D) (tSk tSm c n (typ s + D))) = 9 by omega) (tkX_0.trans hx), tkE_0]
                    refine ⟨zKO_U hs hcc (by omega) (by omega) (by omega) ((p120bbfr k 0 (by omega) (by omega) (by omega) (by omega) (by omega) (by omega) (by omega)).trans w87.2.2.2.2.1) y2.2.1 ⟨(p120bbfr (k + 1) _ (by omega) (by omega) (by omega) (by omega) (by omega) (by omega) (by omega)).trans (w87.2.2.2.2.2.1.trans (by omega)), (p120bbfr (k + 2) _ (by omega) (by omega) (by omega) (by omega) (by omega) (by omega) (by omega)).trans (w87.2.2.2.2.2.2.1.trans p84hv), (p120bbfr (k + 3) _ (by omega) (by omega) (by omega) (by omega) (by omega) (by omega) (by omega)).trans (by have z := w87.2.2.2.2.2.2.2.1; omega)⟩ y2.2.2.1
                      (fun w hw => (w87.2.2.2.2.2.2.2.2.2 w hw).trans (by rw [e9])) ⟨y2.2.2.2.1, y2.2.2.2.2.1⟩ ⟨(p120bbfr (k + 5) _ (by omega) (by omega) (by omega) (by omega) (by omega) (by omega) (by omega)).trans (w87.2.2.2.2.2.2.2.2.1 1 (by decide)).1, (p120bbfr (k + 6) _ (by omega) (by omega) (by omega) (by omega) (by omega) (by omega) (by omega)).trans (w87.2.2.2.2.2.2.2.2.1 1 (by decide)).2⟩ y2.2.2.2.2.2
                      (fun x j hx hj => (p120bbfr x j (by omega) (by omega) (by omega) (by omega) (by omega) (by omega) (by omega)).trans ((p87bbfr x j (by omega) (by omega) (by omega) (by omega) (by omega) (by omega) (by omega) (by omega)).trans ((fr x j (by omega)).trans rfl))) (fun x j hx hj => (p120bbfr x j (by omega) (by omega) (by omega) (by omega) (by omega) (by omega) (by omega)).trans ((p87bbfr x j (by omega) (by omega) (by omega) (by omega) (by omega) (by omega) (by omega) (by omega)).trans ((fr x j (by omega)).trans rfl))) (fun j hj => (p120bbfr (k + 7) j (by omega) (by omega) (by omega) (by omega) (by omega) (by omega) (by omega)).trans ((p87bbfr (k + 7) j (by omega) (by omega) (by omega) (by omega) (by omega) (by omega) (by omega) (by omega)).trans ((fr (k + 7) j (by omega)).trans rfl))) (fun j hj => p87bbbfrL (k + 4) j (by omega)), y2.1, (p120bbfr 61 5 (by omega) (by omega) (by omega) (by omega) (by omega) (by omega) (by omega)).trans ((p87bbfr 61 5 (by omega) (by omega) (by omega) (by omega) (by omega) (by omega) (by omega) (by omega)).trans ((fr 61 5 (by omega)).trans hxv)), hy⟩)
                 | (have hz : tVz c n 0 (tKd c (typ s + D) (tSk tSm c n (typ s + D))).toNat (tSk tSm c n (typ s + D)) (tFv (tKd c (typ s + D) (tSk tSm c n (typ s + D))).toNat (tyx s)) = -1 := by omega
                    have y2 := p128bhok hz
                    have h10 : c (tVp c n 0 (tKd c (typ s + D) (tSk tSm c n (typ s + D))).toNat (tSk tSm c n (typ s + D)) (tFv (tKd c (typ s + D) (tSk tSm c n (typ s + D))).toNat (tyx s))) = 10 := by omega
                    rw [tyB_v (show (tKd c (typ s + D) (tSk tSm c n (typ s + D))) ≠ 9 by omega) hz (fun _ => h10)]
                    refine ⟨zKO_fr (zKO_O hs (a_ := (tKd c (typ s + D) (tSk tSm c n (typ s + D))).toNat) (by omega) (by omega) hcc ((p128bbfr k 0 (by omega) (by omega) (by omega) (by omega) (by omega) (by omega) (by omega)).trans w87.2.2.2.2.1) ((p128bbfr k 2 (by omega) (by omega) (by omega) (by omega) (by omega) (by omega) (by omega)).trans ((p87bbfr k 2 (by omega) (by omega) (by omega) (by omega) (by omega) (by omega) (by omega) (by omega)).trans ((fr k 2 (by omega)).trans s2))) ⟨(p128bbfr (k + 1) _ (by omega) (by omega) (by omega) (by omega) (by omega) (by omega) (by omega)).trans w87.2.2.2.2.2.1, (p128bbfr (k + 2) _ (by omega) (by omega) (by omega) (by omega) (by omega) (by omega) (by omega)).trans (w87.2.2.2.2.2.2.1.trans p84hv), (p128bbfr (k + 3) _ (by omega) (by omega) (by omega) (by omega) (by omega) (by omega) (by omega)).trans (by have z := w87.2.2.2.2.2.2.2.1; omega)⟩ ⟨y2.2.2.1, (by have y3 := y2.2.2.2.1; show _ ≤ (((tVp c n 0 (tKd c (typ s + D) (tSk tSm c n (typ s + D))).toNat (tSk tSm c n (typ s + D)) (tFv (tKd c (typ s + D) (tSk tSm c n (typ s + D))).toNat (tyx s))) + (1 - 0) : Nat) : Int); omega)⟩ y2.2.2.2.2
                      (fun w h1 h2 => (p128bbbfrL (k + 4) _ (by omega)).trans (w87.2.2.2.2.2.2.2.2.2 w h2)) (fun w h1 h2 => ⟨(p128bbfr (k + 5) _ (by omega) (by omega) (by omega) (by omega) (by omega) (by omega) (by omega)).trans (w87.2.2.2.2.2.2.2.2.1 w h2).1, (p128bbfr (k + 6) _ (by omega) (by omega) (by omega) (by omega) (by omega) (by omega) (by omega)).trans (w87.2.2.2.2.2.2.2.2.1 w h2).2⟩)
                      (fun x j hx hj => (p128bbfr x j (by omega) (by omega) (by omega) (by omega) (by omega) (by omega) (by omega)).trans ((p87bbfr x j (by omega) (by omega) (by omega) (by omega) (by omega) (by omega) (by omega) (by omega)).trans ((fr x j (by omega)).trans rfl))) (fun x j hx hj => (p128bbfr x j (by omega) (by omega) (by omega) (by omega) (by omega) (by omega) (by omega)).trans ((p87bbfr x j (by omega) (by omega) (by omega) (by omega) (by omega) (by omega) (by omega) (by omega)).trans ((fr x j (by omega)).trans rfl))) (fun j hj => (p128bbfr (k + 7) j (by omega) (by omega) (by omega) (by omega) (by omega) (by omega) (by omega)).trans ((p87bbfr (k + 7) j (by omega) (by omega) (by omega) (by omega) (by omega) (by omega) (by omega) (by omega)).trans ((fr (k + 7) j (by omega)).trans rfl))) (fun j hj => (p128bbbfrL (k + 4) j (by omega)).trans (p87bbbfrL (k + 4) j (by omega)))) (fun x j h => zxcj (by omega) rfl) (fun x j h => rfl), zxe.trans (show _ = (((tVp c n 0 (tKd c (typ s + D) (tSk tSm c n (typ s + D))).toNat (tSk tSm c n (typ s + D)) (tFv (tKd c (typ s + D) (tSk tSm c n (typ s + D))).toNat (tyx s))) + (1 - 0) : Nat) : Int) by omega), zxs (by omega) y2.2.1, w87.2.1.trans tyy_O.symm⟩)
                 | (exfalso
                    have hz : tVz c n 0 (tKd c (typ s + D) (tSk tSm c n (typ s + D))).toNat (tSk tSm c n (typ s + D)) (tFv (tKd c (typ s + D) (tSk tSm c n (typ s + D))).toNat (tyx s)) ≠ -1 := by omega
                    rw [tyB_vf hc em.2.1 (show (tKd c (typ s + D) (tSk tSm c n (typ s + D))) ≠ 9 by omega) hz] at h9
                    exact hz h9)
                 | (exfalso
                    have hz : tVz c n 0 (tKd c (typ s + D) (tSk tSm c n (typ s + D))).toNat (tSk tSm c n (typ s + D)) (tFv (tKd c (typ s + D) (tSk tSm c n (typ s + D))).toNat (tyx s)) = -1 := by omega
                    have y2 := p128bhok hz
                    rw [tyB_vn (show (tKd c (typ s + D) (tSk tSm c n (typ s + D))) ≠ 9 by omega) hz (by omega)] at h9
                    exact tyF_f h9))
          · refine And.intro (zA_61 hS) ⟨_, sn_K_peek.up (by decide), ?_⟩
            refine ⟨c, n, (tVp c n 0 (tKd c (typ s + D) (tSk tSm c n (typ s + D))).toNat (tSk tSm c n (typ s + D)) (tFv (tKd c (typ s + D) (tSk tSm c n (typ s + D))).toNat (tyx s))), rfl, hS, hR, htx, (by first | exact (zRD_fr hX (fun c j h => ((p128bbfr c j (by omega) (by omega) (by omega) (by omega) (by omega) (by omega) (by omega)).trans ((p87bbfr c j (by omega) (by omega) (by omega) (by omega) (by omega) (by omega) (by omega) (by omega)).trans ((fr c j (by omega)).trans rfl))))) | (clear hQ; grind [xu])), (by first | exact hc | (clear hQ; grind [xu])), (p128bhok (by omega)).1, (by have z := tVp_le (b := 0) hc (tSm_s hc w87.1.1).2.1 (tVz_p (show tVz c n 0 (tKd c (typ s + D) (tSk tSm c n (typ s + D))).toNat (tSk tSm c n (typ s + D)) (tFv (tKd c (typ s + D) (tSk tSm c n (typ s + D))).toNat (tyx s)) = -1 by omega)); omega), ?_⟩
            intro v140o p140hv p140bhv2
            refine And.intro ⟨(by omega), (zRb rfl)⟩ ⟨fun h145 => ?_, fun h145 => ?_⟩
            · refine And.intro (zA_61 hS) (zrd (v := pl128o) p128bbbbhpl9 ?_)
              refine And.intro (zA_61 hS) ⟨_, (zWi (by omega)), ?_⟩
              refine hQ _ _ _ ((pl128o + 1) : Int) ?_ ?_ (by omega) (fun c j h0 h1 h2 h3 h4 h5 h6 h7 h8 h9 h10 h11 => (zxcj h0 ((p128bbfr c j h0 h1 h2 h5 (fun w => h9 w.1) (fun w => h10 w.1) (fun w => h11 w.1)).trans ((p87bbfr c j h0 h1 h3 (fun w => h6 w.1) (fun w => h7 w.1) (fun w => h8 w.1) (fun w => h9 w.1) (fun w => h10 w.1)).trans ((fr c j h0).trans rfl))))) (fun c j h0 => ((p128bbbfrL c j (fun w => h0 w.1)).trans ((p87bbbfrL c j (fun w => h0 w.1)).trans rfl))) rfl (by omega)
              · first
                | (rw [tyA_d0 (by omega) (by have w := hDD (by omega); omega) (by omega)]
                   exact zxe.trans (show _ = ((typ s : Nat) : Int) by omega))
                | (rw [tyA_nb hDD hD0 w87.1]
                   exact w87.2.2)
                | (rw [tyA_y hDD hD46 hD0 w87.1]
                   have em := tSm_s hc w87.1.1
                   first
                   | (rw [tyB_9 (show (tKd c (typ s + D) (tSk tSm c n (typ s + D))) = 9 by omega), tkX_0]
                      exact p120hf)
                   | (have hz : tVz c n 0 (tKd c (typ s + D) (tSk tSm c n (typ s + D))).toNat (tSk tSm c n (typ s + D)) (tFv (tKd c (typ s + D) (tSk tSm c n (typ s + D))).toNat (tyx s)) ≠ -1 := by omega
                      rw [tyB_vf hc em.2.1 (show (tKd c (typ s + D) (tSk tSm c n (typ s + D))) ≠ 9 by omega) hz]
                      exact zxs (by omega) p128hf)
                   | (have hz : tVz c n 0 (tKd c (typ s + D) (tSk tSm c n (typ s + D))).toNat (tSk tSm c n (typ s + D)) (tFv (tKd c (typ s + D) (tSk tSm c n (typ s + D))).toNat (tyx s)) = -1 := by omega
                      have y2 := p128bhok hz
                      first
                      | (rw [tyB_vn (show (tKd c (typ s + D) (tSk tSm c n (typ s + D))) ≠ 9 by omega) hz (by omega)]
                         exact (zxs (by omega) zxe).trans (show _ = (((tVp c n 0 (tKd c (typ s + D) (tSk tSm c n (typ s + D))).toNat (tSk tSm c n (typ s + D)) (tFv (tKd c (typ s + D) (tSk tSm c n (typ s + D))).toNat (tyx s))) : Nat) : Int) by omega))
                      | (rw [tyB_v (show (tKd c (typ s + D) (tSk tSm c n (typ s + D))) ≠ 9 by omega) hz (fun _ => by omega)]
                         exact (zxs (by omega) p128hf).trans hz)))
              · intro h9
                first
                | (exfalso
                   rw [tyA_d0 (by omega) (by have w := hDD (by omega); omega) (by omega)] at h9
                   exact tyF_f h9)
                | (exfalso
                   rw [tyA_nb hDD hD0 w87.1] at h9
                   exact tyF_f h9)
                | (rw [tyA_y hDD hD46 hD0 w87.1] at h9 ⊢
                   have em := tSm_s hc w87.1.1
                   first
                   | (have hx : tlX c n (typ s + D + 2000 - tyk s) D (tSk tSm c n (typ s + D)) = -1 := by
                        rw [tyB_9 (show (tKd c (typ s + D) (tSk tSm c n (typ s + D))) = 9 by omega), tkX_0] at h9
                        exact h9
                      have y2 := p120bhok hx
                      have eb := tlX_b hc hx
                      have e9 : (tKd c (typ s + D) (tSk tSm c n (typ s + D))).toNat = 9 := by omega
                      rw [tyB_u (show (tKd c (typ s + D) (tSk tSm c n (typ s + D))) = 9 by omega) (tkX_0.trans hx), tkE_0]
                      refine ⟨zKO_U hs hcc (by omega) (by omega) (by omega) ((p120bbfr k 0 (by omega) (by omega) (by omega) (by omega) (by omega) (by omega) (by omega)).trans w87.2.2.2.2.1) y2.2.1 ⟨(p120bbfr (k + 1) _ (by omega) (by omega) (by omega) (by omega) (by omega) (by omega) (by omega)).trans (w87.2.2.2.2.2.1.trans (by omega)), (p120bbfr (k + 2) _ (by omega) (by omega) (by omega) (by omega) (by omega) (by omega) (by omega)).trans (w87.2.2.2.2.2.2.1.trans p84hv), (p120bbfr (k + 3) _ (by omega) (by omega) (by omega) (by omega) (by omega) (by omega) (by omega)).trans (by have z := w87.2.2.2.2.2.2.2.1; omega)⟩ y2.2.2.1
                        (fun w hw => (w87.2.2.2.2.2.2.2.2.2 w hw).trans (by rw [e9])) ⟨y2.2.2.2.1, y2.2.2.2.2.1⟩ ⟨(p120bbfr (k + 5) _ (by omega) (by omega) (by omega) (by omega) (by omega) (by omega) (by omega)).trans (w87.2.2.2.2.2.2.2.2.1 1 (by decide)).1, (p120bbfr (k + 6) _ (by omega) (by omega) (by omega) (by omega) (by omega) (by omega) (by omega)).trans (w87.2.2.2.2.2.2.2.2.1 1 (by decide)).2⟩ y2.2.2.2.2.2
                        (fun x j hx hj => (p120bbfr x j (by omega) (by omega) (by omega) (by omega) (by omega) (by omega) (by omega)).trans ((p87bbfr x j (by omega) (by omega) (by omega) (by omega) (by omega) (by omega) (by omega) (by omega)).trans ((fr x j (by omega)).trans rfl))) (fun x j hx hj => (p120bbfr x j (by omega) (by omega) (by omega) (by omega) (by omega) (by omega) (by omega)).trans ((p87bbfr x j (by omega) (by omega) (by omega) (by omega) (by omega) (by omega) (by omega) (by omega)).trans ((fr x j (by omega)).trans rfl))) (fun j hj => (p120bbfr (k + 7) j (by omega) (by omega) (by omega) (by omega) (by omega) (by omega) (by omega)).trans ((p87bbfr (k + 7) j (by omega) (by omega) (by omega) (by omega) (by omega) (by omega) (by omega) (by omega)).trans ((fr (k + 7) j (by omega)).trans rfl))) (fun j hj => p87bbbfrL (k + 4) j (by omega)), y2.1, (p120bbfr 61 5 (by omega) (by omega) (by omega) (by omega) (by omega) (by omega) (by omega)).trans ((p87bbfr 61 5 (by omega) (by omega) (by omega) (by omega) (by omega) (by omega) (by omega) (by omega)).trans ((fr 61 5 (by omega)).trans hxv)), hy⟩)
                   | (have hz : tVz c n 0 (tKd c (typ s + D) (tSk tSm c n (typ s + D))).toNat (tSk tSm c n (typ s + D)) (tFv (tKd c (typ s + D) (tSk tSm c n (typ s + D))).toNat (tyx s)) = -1 := by omega
                      have y2 := p128bhok hz
                      have h10 : c (tVp c n 0 (tKd c (typ s + D) (tSk tSm c n (typ s + D))).toNat (tSk tSm c n (typ s + D)) (tFv (tKd c (typ s + D) (tSk tSm c n (typ s + D))).toNat (tyx s))) = 10 := by omega
                      rw [tyB_v (show (tKd c (typ s + D) (tSk tSm c n (typ s + D))) ≠ 9 by omega) hz (fun _ => h10)]
                      refine ⟨zKO_fr (zKO_O hs (a_ := (tKd c (typ s + D) (tSk tSm c n (typ s + D))).toNat) (by omega) (by omega) hcc ((p128bbfr k 0 (by omega) (by omega) (by omega) (by omega) (by omega) (by omega) (by omega)).trans w87.2.2.2.2.1) ((p128bbfr k 2 (by omega) (by omega) (by omega) (by omega) (by omega) (by omega) (by omega)).trans ((p87bbfr k 2 (by omega) (by omega) (by omega) (by omega) (by omega) (by omega) (by omega) (by omega)).trans ((fr k 2 (by omega)).trans s2))) ⟨(p128bbfr (k + 1) _ (by omega) (by omega) (by omega) (by omega) (by omega) (by omega) (by omega)).trans w87.2.2.2.2.2.1, (p128bbfr (k + 2) _ (by omega) (by omega) (by omega) (by omega) (by omega) (by omega) (by omega)).trans (w87.2.2.2.2.2.2.1.trans p84hv), (p128bbfr (k + 3) _ (by omega) (by omega) (by omega) (by omega) (by omega) (by omega) (by omega)).trans (by have z := w87.2.2.2.2.2.2.2.1; omega)⟩ ⟨y2.2.2.1, (by have y3 := y2.2.2.2.1; show _ ≤ (((tVp c n 0 (tKd c (typ s + D) (tSk tSm c n (typ s + D))).toNat (tSk tSm c n (typ s + D)) (tFv (tKd c (typ s + D) (tSk tSm c n (typ s + D))).toNat (tyx s))) + (1 - 0) : Nat) : Int); omega)⟩ y2.2.2.2.2
                        (fun w h1 h2 => (p128bbbfrL (k + 4) _ (by omega)).trans (w87.2.2.2.2.2.2.2.2.2 w h2)) (fun w h1 h2 => ⟨(p128bbfr (k + 5) _ (by omega) (by omega) (by omega) (by omega) (by omega) (by omega) (by omega)).trans (w87.2.2.2.2.2.2.2.2.1 w h2).1, (p128bbfr (k + 6) _ (by omega) (by omega) (by omega) (by omega) (by omega) (by omega) (by omega)).trans (w87.2.2.2.2.2.2.2.2.1 w h2).2⟩)
                        (fun x j hx hj => (p128bbfr x j (by omega) (by omega) (by omega) (by omega) (by omega) (by omega) (by omega)).trans ((p87bbfr x j (by omega) (by omega) (by omega) (by omega) (by omega) (by omega) (by omega) (by omega)).trans ((fr x j (by omega)).trans rfl))) (fun x j hx hj => (p128bbfr x j (by omega) (by omega) (by omega) (by omega) (by omega) (by omega) (by omega)).trans ((p87bbfr x j (by omega) (by omega) (by omega) (by omega) (by omega) (by omega) (by omega) (by omega)).trans ((fr x j (by omega)).trans rfl))) (fun j hj => (p128bbfr (k + 7) j (by omega) (by omega) (by omega) (by omega) (by omega) (by omega) (by omega)).trans ((p87bbfr (k + 7) j (by omega) (by omega) (by omega) (by omega) (by omega) (by omega) (by omega) (by omega)).trans ((fr (k + 7) j (by omega)).trans rfl))) (fun j hj => (p128bbbfrL (k + 4) j (by omega)).trans (p87bbbfrL (k + 4) j (by omega)))) (fun x j h => zxcj (by omega) rfl) (fun x j h => rfl), zxe.trans (show _ = (((tVp c n 0 (tKd c (typ s + D) (tSk tSm c n (typ s + D))).toNat (tSk tSm c n (typ s + D)) (tFv (tKd c (typ s + D) (tSk tSm c n (typ s + D))).toNat (tyx s))) + (1 - 0) : Nat) : Int) by omega), zxs (by omega) y2.2.1, w87.2.1.trans tyy_O.symm⟩)
                   | (exfalso
                      have hz : tVz c n 0 (tKd c (typ s + D) (tSk tSm c n (typ s + D))).toNat (tSk tSm c n (typ s + D)) (tFv (tKd c (typ s + D) (tSk tSm c n (typ s + D))).toNat (tyx s)) ≠ -1 := by omega
                      rw [tyB_vf hc em.2.1 (show (tKd c (typ s + D) (tSk tSm c n (typ s + D))) ≠ 9 by omega) hz] at h9
                      exact hz h9)
                   | (exfalso
                      have hz : tVz c n 0 (tKd c (typ s + D) (tSk tSm c n (typ s + D))).toNat (tSk tSm c n (typ s + D)) (tFv (tKd c (typ s + D) (tSk tSm c n (typ s + D))).toNat (tyx s)) = -1 := by omega
                      have y2 := p128bhok hz
                      rw [tyB_vn (show (tKd c (typ s + D) (tSk tSm c n (typ s + D))) ≠ 9 by omega) hz (by omega)] at h9
                      exact tyF_f h9))
            · refine And.intro (zA_61 hS) (zrd (v := pl128o) p128bbbbhpl9 ?_)
              refine And.intro (zA_61 hS) (Exists.intro _ (And.intro (zinl_ok (zT9_2 3)) (And.intro rfl ?_)))
              refine And.intro (zA_61 hS) (zrd (v := (tVz c n 0 ((tKd c (typ s + D) (tSk tSm c n (typ s + D))).toNat) (tSk tSm c n (typ s + D)) (tFv ((tKd c (typ s + D) (tSk tSm c n (typ s + D))).toNat) (tyx s)))) p128hf ?_)
              refine And.intro ⟨(by omega), (zRb rfl)⟩ ⟨(fun h5_153 => False.elim (by omega)), fun h5_153 => ?_⟩
              refine And.intro (zA_61 hS) ⟨_, (zWi (by omega)), ?_⟩
              refine And.intro (zA_61 hS) (zrd (v := pl128o) p128bbbbhpl9 ?_)
              refine And.intro (zA_61 hS) ⟨_, (zWi (by omega)), ?_⟩
              refine hQ _ _ _ ((pl128o + 1) : Int) ?_ ?_ (by omega) (fun c j h0 h1 h2 h3 h4 h5 h6 h7 h8 h9 h10 h11 => (zxcj h0 (zxcj h1 ((p128bbfr c j h0 h1 h2 h5 (fun w => h9 w.1) (fun w => h10 w.1) (fun w => h11 w.1)).trans ((p87bbfr c j h0 h1 h3 (fun w => h6 w.1) (fun w => h7 w.1) (fun w => h8 w.1) (fun w => h9 w.1) (fun w => h10 w.1)).trans ((fr c j h0).trans rfl)))))) (fun c j h0 => ((p128bbbfrL c j (fun w => h0 w.1)).trans ((p87bbbfrL c j (fun w => h0 w.1)).trans rfl))) rfl (by omega)
              · first
                | (rw [tyA_d0 (by omega) (by have w := hDD (by omega); omega) (by omega)]
                   exact zxe.trans (show _ = ((typ s : Nat) : Int) by omega))
                | (rw [tyA_nb hDD hD0 w87.1]
                   exact w87.2.2)
                | (rw [tyA_y hDD hD46 hD0 w87.1]
                   have em := tSm_s hc w87.1.1
                   first
                   | (rw [tyB_9 (show (tKd c (typ s + D) (tSk tSm c n (typ s + D))) = 9 by omega), tkX_0]
                      exact p120hf)
                   | (have hz : tVz c n 0 (tKd c (typ s + D) (tSk tSm c n (typ s + D))).toNat (tSk tSm c n (typ s + D)) (tFv (tKd c (typ s + D) (tSk tSm c n (typ s + D))).toNat (tyx s)) ≠ -1 := by omega
                      rw [tyB_vf hc em.2.1 (show (tKd c (typ s + D) (tSk tSm c n (typ s + D))) ≠ 9 by omega) hz]
                      exact zxs (by omega) p128hf)
                   | (have hz : tVz c n 0 (tKd c (typ s + D) (tSk tSm c n (typ s + D))).toNat (tSk tSm c n (typ s + D)) (tFv (tKd c (typ s + D) (tSk tSm c n (typ s + D))).toNat (tyx s)) = -1 := by omega
                      have y2 := p128bhok hz
                      first
                      | (rw [tyB_vn (show (tKd c (typ s + D) (tSk tSm c n (typ s + D))) ≠ 9 by omega) hz (by omega)]
                         exact (zxs (by omega) zxe).trans (show _ = (((tVp c n 0 (tKd c (typ s + D) (tSk tSm c n (typ s + D))).toNat (tSk tSm c n (typ s + D)) (tFv (tKd c (typ s + D) (tSk tSm c n (typ s + D))).toNat (tyx s))) : Nat) : Int) by omega))
                      | (rw [tyB_v (show (tKd c (typ s + D) (tSk tSm c n (typ s + D))) ≠ 9 by omega) hz (fun _ => by omega)]
                         exact (zxs (by omega) p128hf).trans hz)))
              · intro h9
                first
                | (exfalso
                   rw [tyA_d0 (by omega) (by have w := hDD (by omega); omega) (by omega)] at h9
                   exact tyF_f h9)
                | (exfalso
                   rw [tyA_nb hDD hD0 w87.1] at h9
                   exact tyF_f h9)
                | (rw [tyA_y hDD hD46 hD0 w87.1] at h9 ⊢
                   have em := tSm_s hc w87.1.1
                   first
                   | (have hx : tlX c n (typ s + D + 2000 - tyk s) D (tSk tSm c n (typ s + D)) = -1 := by
                        rw [tyB_9 (show (tKd c (typ s + D) (tSk tSm c n (typ s + D))) = 9 by omega), tkX_0] at h9
                        exact h9
                      have y2 := p120bhok hx
                      have eb := tlX_b hc hx
                      have e9 : (tKd c (typ s + D) (tSk tSm c n (typ s + D))).toNat = 9 := by omega
                      rw [tyB_u (show (tKd c (typ s + D) (tSk tSm c n (typ s + D))) = 9 by omega) (tkX_0.trans hx), tkE_0]
                      refine ⟨zKO_U hs hcc (by omega) (by omega) (by omega) ((p120bbfr k 0 (by omega) (by omega) (by omega) (by omega) (by omega) (by omega) (by omega)).trans w87.2.2.2.2.1) y2.2.1 ⟨(p120bbfr (k + 1) _ (by omega) (by omega) (by omega) (by omega) (by omega) (by omega) (by omega)).trans (w87.2.2.2.2.2.1.trans (by omega)), (p120bbfr (k + 2) _ (by omega) (by omega) (by omega) (by omega) (by omega) (by omega) (by omega)).trans (w87.2.2.2.2.2.2.1.trans p84hv), (p120bbfr (k + 3) _ (by omega) (by omega) (by omega) (by omega) (by omega) (by omega) (by omega)).trans (by have z := w87.2.2.2.2.2.2.2.1; omega)⟩ y2.2.2.1
                        (fun w hw => (w87.2.2.2.2.2.2.2.2.2 w hw).trans (by rw [e9])) ⟨y2.2.2.2.1, y2.2.2.2.2.1⟩ ⟨(p120bbfr (k + 5) _ (by omega) (by omega) (by omega) (by omega) (by omega) (by omega) (by omega)).trans (w87.2.2.2.2.2.2.2.2.1 1 (by decide)).1, (p120bbfr (k + 6) _ (by omega) (by omega) (by omega) (by omega) (by omega) (by omega) (by omega)).trans (w87.2.2.2.2.2.2.2.2.1 1 (by decide)).2⟩ y2.2.2.2.2.2
                        (fun x j hx hj => (p120bbfr x j (by omega) (by omega) (by omega) (by omega) (by omega) (by omega) (by omega)).trans ((p87bbfr x j (by omega) (by omega) (by omega) (by omega) (by omega) (by omega) (by omega) (by omega)).trans ((fr x j (by omega)).trans rfl))) (fun x j hx hj => (p120bbfr x j (by omega) (by omega) (by omega) (by omega) (by omega) (by omega) (by omega)).trans ((p87bbfr x j (by omega) (by omega) (by omega) (by omega) (by omega) (by omega) (by omega) (by omega)).trans ((fr x j (by omega)).trans rfl))) (fun j hj => (p120bbfr (k + 7) j (by omega) (by omega) (by omega) (by omega) (by omega) (by omega) (by omega)).trans ((p87bbfr (k + 7) j (by omega) (by omega) (by omega) (by omega) (by omega) (by omega) (by omega) (by omega)).trans ((fr (k + 7) j (by omega)).trans rfl))) (fun j hj => p87bbbfrL (k + 4) j (by omega)), y2.1, (p120bbfr 61 5 (by omega) (by omega) (by omega) (by omega) (by omega) (by omega) (by omega)).trans ((p87bbfr 61 5 (by omega) (by omega) (by omega) (by omega) (by omega) (by omega) (by omega) (by omega)).trans ((fr 61 5 (by omega)).trans hxv)), hy⟩)
                   | (have hz : tVz c n 0 (tKd c (typ s + D) (tSk tSm c n (typ s + D))).toNat (tSk tSm c n (typ s + D)) (tFv (tKd c (typ s + D) (tSk tSm c n (typ s + D))).toNat (tyx s)) = -1 := by omega
                      have y2 := p128bhok hz
                      have h10 : c (tVp c n 0 (tKd c (typ s + D) (tSk tSm c n (typ s + D))).toNat (tSk tSm c n (typ s + D)) (tFv (tKd c (typ s + D) (tSk tSm c n (typ s + D))).toNat (tyx s))) = 10 := by omega
                      rw [tyB_v (show (tKd c (typ s + D) (tSk tSm c n (typ s + D))) ≠ 9 by omega) hz (fun _ => h10)]
                      refine ⟨zKO_fr (zKO_O hs (a_ := (tKd c (typ s + D) (tSk tSm c n (typ s + D))).toNat) (by omega) (by omega) hcc ((p128bbfr k 0 (by omega) (by omega) (by omega) (by omega) (by omega) (by omega) (by omega)).trans w87.2.2.2.2.1) ((p128bbfr k 2 (by omega) (by omega) (by omega) (by omega) (by omega) (by omega) (by omega)).trans ((p87bbfr k 2 (by omega) (by omega) (by omega) (by omega) (by omega) (by omega) (by omega) (by omega)).trans ((fr k 2 (by omega)).trans s2))) ⟨(p128bbfr (k + 1) _ (by omega) (by omega) (by omega) (by omega) (by omega) (by omega) (by omega)).trans w87.2.2.2.2.2.1, (p128bbfr (k + 2) _ (by omega) (by omega) (by omega) (by omega) (by omega) (by omega) (by omega)).trans (w87.2.2.2.2.2.2.1.trans p84hv), (p128bbfr (k + 3) _ (by omega) (by omega) (by omega) (by omega) (by omega) (by omega) (by omega)).trans (by have z := w87.2.2.2.2.2.2.2.1; omega)⟩ ⟨y2.2.2.1, (by have y3 := y2.2.2.2.1; show _ ≤ (((tVp c n 0 (tKd c (typ s + D) (tSk tSm c n (typ s + D))).toNat (tSk tSm c n (typ s + D)) (tFv (tKd c (typ s + D) (tSk tSm c n (typ s + D))).toNat (tyx s))) + (1 - 0) : Nat) : Int); omega)⟩ y2.2.2.2.2
                        (fun w h1 h2 => (p128bbbfrL (k + 4) _ (by omega)).trans (w87.2.2.2.2.2.2.2.2.2 w h2)) (fun w h1 h2 => ⟨(p128bbfr (k + 5) _ (by omega) (by omega) (by omega) (by omega) (by omega) (by omega) (by omega)).trans (w87.2.2.2.2.2.2.2.2.1 w h2).1, (p128bbfr (k + 6) _ (by omega) (by omega) (by omega) (by omega) (by omega) (by omega) (by omega)).trans (w87.2.2.2.2.2.2.2.2.1 w h2).2⟩)
                        (fun x j hx hj => (p128bbfr x j (by omega) (by omega) (by omega) (by omega) (by omega) (by omega) (by omega)).trans ((p87bbfr x j (by omega) (by omega) (by omega) (by omega) (by omega) (by omega) (by omega) (by omega)).trans ((fr x j (by omega)).trans rfl))) (fun x j hx hj => (p128bbfr x j (by omega) (by omega) (by omega) (by omega) (by omega) (by omega) (by omega)).trans ((p87bbfr x j (by omega) (by omega) (by omega) (by omega) (by omega) (by omega) (by omega) (by omega)).trans ((fr x j (by omega)).trans rfl))) (fun j hj => (p128bbfr (k + 7) j (by omega) (by omega) (by omega) (by omega) (by omega) (by omega) (by omega)).trans ((p87bbfr (k + 7) j (by omega) (by omega) (by omega) (by omega) (by omega) (by omega) (by omega) (by omega)).trans ((fr (k + 7) j (by omega)).trans rfl))) (fun j hj => (p128bbbfrL (k + 4) j (by omega)).trans (p87bbbfrL (k + 4) j (by omega)))) (fun x j h => zxcj (by omega) rfl) (fun x j h => rfl), zxe.trans (show _ = (((tVp c n 0 (tKd c (typ s + D) (tSk tSm c n (typ s + D))).toNat (tSk tSm c n (typ s + D)) (tFv (tKd c (typ s + D) (tSk tSm c n (typ s + D))).toNat (tyx s))) + (1 - 0) : Nat) : Int) by omega), zxs (by omega) y2.2.1, w87.2.1.trans tyy_O.symm⟩)
                   | (exfalso
                      have hz : tVz c n 0 (tKd c (typ s + D) (tSk tSm c n (typ s + D))).toNat (tSk tSm c n (typ s + D)) (tFv (tKd c (typ s + D) (tSk tSm c n (typ s + D))).toNat (tyx s)) ≠ -1 := by omega
                      rw [tyB_vf hc em.2.1 (show (tKd c (typ s + D) (tSk tSm c n (typ s + D))) ≠ 9 by omega) hz] at h9
                      exact hz h9)
                   | (exfalso
                      have hz : tVz c n 0 (tKd c (typ s + D) (tSk tSm c n (typ s + D))).toNat (tSk tSm c n (typ s + D)) (tFv (tKd c (typ s + D) (tSk tSm c n (typ s + D))).toNat (tyx s)) = -1 := by omega
                      have y2 := p128bhok hz
                      rw [tyB_vn (show (tKd c (typ s + D) (tSk tSm c n (typ s + D))) ≠ 9 by omega) hz (by omega)] at h9
                      exact tyF_f h9))
        · refine And.intro (zA_61 hS) ⟨_, sn_K_kpn.up (by decide), ?_⟩
          refine ⟨c, n, (typ s + D + 2000 - tyk s), D, (tSk tSm c n (typ s + D)), k, ((tyn s : Int) + 1), (v87o : Int), (tyn s), ((typ s + D) : Int), (typ s + D), cc, (tyk s), (D : Int), rfl, hS, hR, htx, (by first | exact (zRD_fr hX (fun c j h => ((p87bbfr c j (by omega) (by omega) (by omega) (by omega) (by omega) (by omega) (by omega) (by omega)).trans ((fr c j (by omega)).trans rfl)))) | (clear hQ; grind [xu])), (by first | exact hc | (clear hQ; grind [xu])), (Eq.trans (b := (((tSk tSm c n (typ s + D))) : Int)) w87.2.2.2.1 (by omega)), (tSm_s hc w87.1.1).2.1, ⟨rfl, by have z := tSm_s hc w87.1.1; omega⟩, hob, hD, (by omega), w87.2.2.2.2.1, (by omega), (by omega), (by omega), ((p87bbfr k 2 (by omega) (by omega) (by omega) (by omega) (by omega) (by omega) (by omega) (by omega)).trans ((fr k 2 (by omega)).trans s2)), (by omega), (by omega), ((p87bbfr k 10 (by omega) (by omega) (by omega) (by omega) (by omega) (by omega) (by omega) (by omega)).trans ((fr k 10 (by omega)).trans hcc)), (by omega), (w87.2.2.2.2.2.2.2.2.1 0 (by decide)).2, (Eq.trans (b := ((-1) : Int)) w87.2.2.1 (by omega)), ?_⟩
          intro I120o pl120o p120hf p120bhok p120bbfr p120bbbhpl9 p120bbbbhpb9
          refine hQ _ _ _ (pl120o : Int) ?_ ?_ (by omega) (fun c j h0 h1 h2 h3 h4 h5 h6 h7 h8 h9 h10 h11 => ((p120bbfr c j h0 h1 h4 h5 (fun w => h9 w.1) (fun w => h10 w.1) (fun w => h11 w.1)).trans ((p87bbfr c j h0 h1 h3 (fun w => h6 w.1) (fun w => h7 w.1) (fun w => h8 w.1) (fun w => h9 w.1) (fun w => h10 w.1)).trans ((fr c j h0).trans rfl)))) (fun c j h0 => ((p87bbbfrL c j (fun w => h0 w.1)).trans rfl)) p120bbbhpl9 (by omega)
          · first
            | (rw [tyA_d0 (by omega) (by have w := hDD (by omega); omega) (by omega)]
               exact zxe.trans (show _ = ((typ s : Nat) : Int) by omega))
            | (rw [tyA_nb hDD hD0 w87.1]
               exact w87.2.2)
            | (rw [tyA_y hDD hD46 hD0 w87.1]
               have em := tSm_s hc w87.1.1
               first
               | (rw [tyB_9 (show (tKd c (typ s + D) (tSk tSm c n (typ s + D))) = 9 by omega), tkX_0]
                  exact p120hf)
               | (have hz : tVz c n 0 (tKd c (typ s + D) (tSk tSm c n (typ s + D))).toNat (tSk tSm c n (typ s + D)) (tFv (tKd c (typ s + D) (tSk tSm c n (typ s + D))).toNat (tyx s)) ≠ -1 := by omega
                  rw [tyB_vf hc em.2.1 (show (tKd c (typ s + D) (tSk tSm c n (typ s + D))) ≠ 9 by omega) hz]
                  exact zxs (by omega) p128hf)
               | (have hz : tVz c n 0 (tKd c (typ s + D) (tSk tSm c n (typ s + D))).toNat (tSk tSm c n (typ s + D)) (tFv (tKd c (typ s + D) (tSk tSm c n (typ s + D))).toNat (tyx s)) = -1 := by omega
                  have y2 := p128bhok hz
                  first
                  | (rw [tyB_vn (show (tKd c (typ s + D) (tSk tSm c n (typ s + D))) ≠ 9 by omega) hz (by omega)]
                     exact (zxs (by omega) zxe).trans (show _ = (((tVp c n 0 (tKd c (typ s + D) (tSk tSm c n (typ s + D))).toNat (tSk tSm c n (typ s + D)) (tFv (tKd c (typ s + D) (tSk tSm c n (typ s + D))).toNat (tyx s))) : Nat) : Int) by omega))
                  | (rw [tyB_v (show (tKd c (typ s + D) (tSk tSm c n (typ s + D))) ≠ 9 by omega) hz (fun _ => by omega)]
                     exact (zxs (by omega) p128hf).trans hz)))
          · intro h9
            first
            | (exfalso
               rw [tyA_d0 (by omega) (by have w := hDD (by omega); omega) (by omega)] at h9
               exact tyF_f h9)
            | (exfalso
               rw [tyA_nb hDD hD0 w87.1] at h9
               exact tyF_f h9)
            | (rw [tyA_y hDD hD46 hD0 w87.1] at h9 ⊢
               have em := tSm_s hc w87.1.1
               first
               | (have hx : tlX c n (typ s + D + 2000 - tyk s) D (tSk tSm c n (typ s + D)) = -1 := by
                    rw [tyB_9 (show (tKd c (typ s + D) (tSk tSm c n (typ s + D))) = 9 by omega), tkX_0] at h9
                    exact h9
                  have y2 := p120bhok hx
                  have eb := tlX_b hc hx
                  have e9 : (tKd c (typ s + D) (tSk tSm c n (typ s + D))).toNat = 9 := by omega
                  rw [tyB_u (show (tKd c (typ s + D) (tSk tSm c n (typ s + D))) = 9 by omega) (tkX_0.trans hx), tkE_0]
                  refine ⟨zKO_U hs hcc (by omega) (by omega) (by omega) ((p120bbfr k 0 (by omega) (by omega) (by omega) (by omega) (by omega) (by omega) (by omega)).trans w87.2.2.2.2.1) y2.2.1 ⟨(p120bbfr (k + 1) _ (by omega) (by omega) (by omega) (by omega) (by omega) (by omega) (by omega)).trans (w87.2.2.2.2.2.1.trans (by omega)), (p120bbfr (k + 2) _ (by omega) (by omega) (by omega) (by omega) (by omega) (by omega) (by omega)).trans (w87.2.2.2.2.2.2.1.trans p84hv), (p120bbfr (k + 3) _ (by omega) (by omega) (by omega) (by omega) (by omega) (by omega) (by omega)).trans (by have z := w87.2.2.2.2.2.2.2.1; omega)⟩ y2.2.2.1
                    (fun w hw => (w87.2.2.2.2.2.2.2.2.2 w hw).trans (by rw [e9])) ⟨y2.2.2.2.1, y2.2.2.2.2.1⟩ ⟨(p120bbfr (k + 5) _ (by omega) (by omega) (by omega) (by omega) (by omega) (by omega) (by omega)).trans (w87.2.2.2.2.2.2.2.2.1 1 (by decide)).1, (p120bbfr (k + 6) _ (by omega) (by omega) (by omega) (by omega) (by omega) (by omega) (by omega)).trans (w87.2.2.2.2.2.2.2.2.1 1 (by decide)).2⟩ y2.2.2.2.2.2
                    (fun x j hx hj => (p120bbfr x j (by omega) (by omega) (by omega) (by omega) (by omega) (by omega) (by omega)).trans ((p87bbfr x j (by omega) (by omega) (by omega) (by omega) (by omega) (by omega) (by omega) (by omega)).trans ((fr x j (by omega)).trans rfl))) (fun x j hx hj => (p120bbfr x j (by omega) (by omega) (by omega) (by omega) (by omega) (by omega) (by omega)).trans ((p87bbfr x j (by omega) (by omega) (by omega) (by omega) (by omega) (by omega) (by omega) (by omega)).trans ((fr x j (by omega)).trans rfl))) (fun j hj => (p120bbfr (k + 7) j (by omega) (by omega) (by omega) (by omega) (by omega) (by omega) (by omega)).trans ((p87bbfr (k + 7) j (by omega) (by omega) (by omega) (by omega) (by omega) (by omega) (by omega) (by omega)).trans ((fr (k + 7) j (by omega)).trans rfl))) (fun j hj => p87bbbfrL (k + 4) j (by omega)), y2.1, (p120bbfr 61 5 (by omega) (by omega) (by omega) (by omega) (by omega) (by omega) (by omega)).trans ((p87bbfr 61 5 (by omega) (by omega) (by omega) (by omega) (by omega) (by omega) (by omega) (by omega)).trans ((fr 61 5 (by omega)).trans hxv)), hy⟩)
               | (have hz : tVz c n 0 (tKd c (typ s + D) (tSk tSm c n (typ s + D))).toNat (tSk tSm c n (typ s + D)) (tFv (tKd c (typ s + D) (tSk tSm c n (typ s + D))).toNat (tyx s)) = -1 := by omega
                  have y2 := p128bhok hz
                  have h10 : c (tVp c n 0 (tKd c (typ s + D) (tSk tSm c n (typ s + D))).toNat (tSk tSm c n (typ s + D)) (tFv (tKd c (typ s + D) (tSk tSm c n (typ s + D))).toNat (tyx s))) = 10 := by omega
                  rw [tyB_v (show (tKd c (typ s + D) (tSk tSm c n (typ s + D))) ≠ 9 by omega) hz (fun _ => h10)]
                  refine ⟨zKO_fr (zKO_O hs (a_ := (tKd c (typ s + D) (tSk tSm c n (typ s + D))).toNat) (by omega) (by omega) hcc ((p128bbfr k 0 (by omega) (by omega) (by omega) (by omega) (by omega) (by omega) (by omega)).trans w87.2.2.2.2.1) ((p128bbfr k 2 (by omega) (by omega) (by omega) (by omega) (by omega) (by omega) (by omega)).trans ((p87bbfr k 2 (by omega) (by omega) (by omega) (by omega) (by omega) (by omega) (by omega) (by omega)).trans ((fr k 2 (by omega)).trans s2))) ⟨(p128bbfr (k + 1) _ (by omega) (by omega) (by omega) (by omega) (by omega) (by omega) (by omega)).trans w87.2.2.2.2.2.1, (p128bbfr (k + 2) _ (by omega) (by omega) (by omega) (by omega) (by omega) (by omega) (by omega)).trans (w87.2.2.2.2.2.2.1.trans p84hv), (p128bbfr (k + 3) _ (by omega) (by omega) (by omega) (by omega) (by omega) (by omega) (by omega)).trans (by have z := w87.2.2.2.2.2.2.2.1; omega)⟩ ⟨y2.2.2.1, (by have y3 := y2.2.2.2.1; show _ ≤ (((tVp c n 0 (tKd c (typ s + D) (tSk tSm c n (typ s + D))).toNat (tSk tSm c n (typ s + D)) (tFv (tKd c (typ s + D) (tSk tSm c n (typ s + D))).toNat (tyx s))) + (1 - 0) : Nat) : Int); omega)⟩ y2.2.2.2.2
                    (fun w h1 h2 => (p128bbbfrL (k + 4) _ (by omega)).trans (w87.2.2.2.2.2.2.2.2.2 w h2)) (fun w h1 h2 => ⟨(p128bbfr (k + 5) _ (by omega) (by omega) (by omega) (by omega) (by omega) (by omega) (by omega)).trans (w87.2.2.2.2.2.2.2.2.1 w h2).1, (p128bbfr (k + 6) _ (by omega) (by omega) (by omega) (by omega) (by omega) (by omega) (by omega)).trans (w87.2.2.2.2.2.2.2.2.1 w h2).2⟩)
                    (fun x j hx hj => (p128bbfr x j (by omega) (by omega) (by omega) (by omega) (by omega) (by omega) (by omega)).trans ((p87bbfr x j (by omega) (by omega) (by omega) (by omega) (by omega) (by omega) (by omega) (by omega)).trans ((fr x j (by omega)).trans rfl))) (fun x j hx hj => (p128bbfr x j (by omega) (by omega) (by omega) (by omega) (by omega) (by omega) (by omega)).trans ((p87bbfr x j (by omega) (by omega) (by omega) (by omega) (by omega) (by omega) (by omega) (by omega)).trans ((fr x j (by omega)).trans rfl))) (fun j hj => (p128bbfr (k + 7) j (by omega) (by omega) (by omega) (by omega) (by omega) (by omega) (by omega)).trans ((p87bbfr (k + 7) j (by omega) (by omega) (by omega) (by omega) (by omega) (by omega) (by omega) (by omega)).trans ((fr (k + 7) j (by omega)).trans rfl))) (fun j hj => (p128bbbfrL (k + 4) j (by omega)).trans (p87bbbfrL (k + 4) j (by omega)))) (fun x j h => zxcj (by omega) rfl) (fun x j h => rfl), zxe.trans (show _ = (((tVp c n 0 (tKd c (typ s + D) (tSk tSm c n (typ s + D))).toNat (tSk tSm c n (typ s + D)) (tFv (tKd c (typ s + D) (tSk tSm c n (typ s + D))).toNat (tyx s))) + (1 - 0) : Nat) : Int) by omega), zxs (by omega) y2.2.1, w87.2.1.trans tyy_O.symm⟩)
               | (exfalso
                  have hz : tVz c n 0 (tKd c (typ s + D) (tSk tSm c n (typ s + D))).toNat (tSk tSm c n (typ s + D)) (tFv (tKd c (typ s + D) (tSk tSm c n (typ s + D))).toNat (tyx s)) ≠ -1 := by omega
                  rw [tyB_vf hc em.2.1 (show (tKd c (typ s + D) (tSk tSm c n (typ s + D))) ≠ 9 by omega) hz] at h9
                  exact hz h9)
               | (exfalso
                  have hz : tVz c n 0 (tKd c (typ s + D) (tSk tSm c n (typ s + D))).toNat (tSk tSm c n (typ s + D)) (tFv (tKd c (typ s + D) (tSk tSm c n (typ s + D))).toNat (tyx s)) = -1 := by omega
                  have y2 := p128bhok hz
                  rw [tyB_vn (show (tKd c (typ s + D) (tSk tSm c n (typ s + D))) ≠ 9 by omega) hz (by omega)] at h9
                  exact tyF_f h9))
    · refine And.intro ⟨(by omega), (zRb rfl)⟩ ⟨(fun h95 => False.elim (by omega)), fun h95 => ?_⟩
      refine hQ _ _ _ (pl87o : Int) ?_ ?_ (by omega) (fun c j h0 h1 h2 h3 h4 h5 h6 h7 h8 h9 h10 h11 => ((p87bbfr c j h0 h1 h3 (fun w => h6 w.1) (fun w => h7 w.1) (fun w => h8 w.1) (fun w => h9 w.1) (fun w => h10 w.1)).trans ((fr c j h0).trans rfl))) (fun c j h0 => ((p87bbbfrL c j (fun w => h0 w.1)).trans rfl)) p87bbbbhpl9 (by omega)
      · first
        | (rw [tyA_d0 (by omega) (by have w := hDD (by omega); omega) (by omega)]
           exact zxe.trans (show _ = ((typ s : Nat) : Int) by omega))
        | (rw [tyA_nb hDD hD0 w87.1]
           exact w87.2.2)
        | (rw [tyA_y hDD hD46 hD0 w87.1]
           have em := tSm_s hc w87.1.1
           first
           | (rw [tyB_9 (show (tKd c (typ s + D) (tSk tSm c n (typ s + D))) = 9 by omega), tkX_0]
              exact p120hf)
           | (have hz : tVz c n 0 (tKd c (typ s + D) (tSk tSm c n (typ s + D))).toNat (tSk tSm c n (typ s + D)) (tFv (tKd c (typ s + D) (tSk tSm c n (typ s + D))).toNat (tyx s)) ≠ -1 := by omega
              rw [tyB_vf hc em.2.1 (show (tKd c (typ s + D) (tSk tSm c n (typ s + D))) ≠ 9 by omega) hz]
              exact zxs (by omega) p128hf)
           | (have hz : tVz c n 0 (tKd c (typ s + D) (tSk tSm c n (typ s + D))).toNat (tSk tSm c n (typ s + D)) (tFv (tKd c (typ s + D) (tSk tSm c n (typ s + D))).toNat (tyx s)) = -1 := by omega
              have y2 := p128bhok hz
              first
              | (rw [tyB_vn (show (tKd c (typ s + D) (tSk tSm c n (typ s + D))) ≠ 9 by omega) hz (by omega)]
                 exact (zxs (by omega) zxe).trans (show _ = (((tVp c n 0 (tKd c (typ s + D) (tSk tSm c n (typ s + D))).toNat (tSk tSm c n (typ s + D)) (tFv (tKd c (typ s + D) (tSk tSm c n (typ s + D))).toNat (tyx s))) : Nat) : Int) by omega))
              | (rw [tyB_v (show (tKd c (typ s + D) (tSk tSm c n (typ s + D))) ≠ 9 by omega) hz (fun _ => by omega)]
                 exact (zxs (by omega) p128hf).trans hz)))
      · intro h9
        first
        | (exfalso
           rw [tyA_d0 (by omega) (by have w := hDD (by omega); omega) (by omega)] at h9
           exact tyF_f h9)
        | (exfalso
           rw [tyA_nb hDD hD0 w87.1] at h9
           exact tyF_f h9)
        | (rw [tyA_y hDD hD46 hD0 w87.1] at h9 ⊢
           have em := tSm_s hc w87.1.1
           first
           | (have hx : tlX c n (typ s + D + 2000 - tyk s) D (tSk tSm c n (typ s + D)) = -1 := by
                rw [tyB_9 (show (tKd c (typ s + D) (tSk tSm c n (typ s + D))) = 9 by omega), tkX_0] at h9
                exact h9
              have y2 := p120bhok hx
              have eb := tlX_b hc hx
              have e9 : (tKd c (typ s + D) (tSk tSm c n (typ s + D))).toNat = 9 := by omega
              rw [tyB_u (show (tKd c (typ s + D) (tSk tSm c n (typ s + D))) = 9 by omega) (tkX_0.trans hx), tkE_0]
              refine ⟨zKO_U hs hcc (by omega) (by omega) (by omega) ((p120bbfr k 0 (by omega) (by omega) (by omega) (by omega) (by omega) (by omega) (by omega)).trans w87.2.2.2.2.1) y2.2.1 ⟨(p120bbfr (k + 1) _ (by omega) (by omega) (by omega) (by omega) (by omega) (by omega) (by omega)).trans (w87.2.2.2.2.2.1.trans (by omega)), (p120bbfr (k + 2) _ (by omega) (by omega) (by omega) (by omega) (by omega) (by omega) (by omega)).trans (w87.2.2.2.2.2.2.1.trans p84hv), (p120bbfr (k + 3) _ (by omega) (by omega) (by omega) (by omega) (by omega) (by omega) (by omega)).trans (by have z := w87.2.2.2.2.2.2.2.1; omega)⟩ y2.2.2.1
                (fun w hw => (w87.2.2.2.2.2.2.2.2.2 w hw).trans (by rw [e9])) ⟨y2.2.2.2.1, y2.2.2.2.2.1⟩ ⟨(p120bbfr (k + 5) _ (by omega) (by omega) (by omega) (by omega) (by omega) (by omega) (by omega)).trans (w87.2.2.2.2.2.2.2.2.1 1 (by decide)).1, (p120bbfr (k + 6) _ (by omega) (by omega) (by omega) (by omega) (by omega) (by omega) (by omega)).trans (w87.2.2.2.2.2.2.2.2.1 1 (by decide)).2⟩ y2.2.2.2.2.2
                (fun x j hx hj => (p120bbfr x j (by omega) (by omega) (by omega) (by omega) (by omega) (by omega) (by omega)).trans ((p87bbfr x j (by omega) (by omega) (by omega) (by omega) (by omega) (by omega) (by omega) (by omega)).trans ((fr x j (by omega)).trans rfl))) (fun x j hx hj => (p120bbfr x j (by omega) (by omega) (by omega) (by omega) (by omega) (by omega) (by omega)).trans ((p87bbfr x j (by omega) (by omega) (by omega) (by omega) (by omega) (by omega) (by omega) (by omega)).trans ((fr x j (by omega)).trans rfl))) (fun j hj => (p120bbfr (k + 7) j (by omega) (by omega) (by omega) (by omega) (by omega) (by omega) (by omega)).trans ((p87bbfr (k + 7) j (by omega) (by omega) (by omega) (by omega) (by omega) (by omega) (by omega) (by omega)).trans ((fr (k + 7) j (by omega)).trans rfl))) (fun j hj => p87bbbfrL (k + 4) j (by omega)), y2.1, (p120bbfr 61 5 (by omega) (by omega) (by omega) (by omega) (by omega) (by omega) (by omega)).trans ((p87bbfr 61 5 (by omega) (by omega) (by omega) (by omega) (by omega) (by omega) (by omega) (by omega)).trans ((fr 61 5 (by omega)).trans hxv)), hy⟩)
           | (have hz : tVz c n 0 (tKd c (typ s + D) (tSk tSm c n (typ s + D))).toNat (tSk tSm c n (typ s + D)) (tFv (tKd c (typ s + D) (tSk tSm c n (typ s + D))).toNat (tyx s)) = -1 := by omega
              have y2 := p128bhok hz
              have h10 : c (tVp c n 0 (tKd c (typ s + D) (tSk tSm c n (typ s + D))).toNat (tSk tSm c n (typ s + D)) (tFv (tKd c (typ s + D) (tSk tSm c n (typ s + D))).toNat (tyx s))) = 10 := by omega
              rw [tyB_v (show (tKd c (typ s + D) (tSk tSm c n (typ s + D))) ≠ 9 by omega) hz (fun _ => h10)]
              refine ⟨zKO_fr (zKO_O hs (a_ := (tKd c (typ s + D) (tSk tSm c n (typ s + D))).toNat) (by omega) (by omega) hcc ((p128bbfr k 0 (by omega) (by omega) (by omega) (by omega) (by omega) (by omega) (by omega)).trans w87.2.2.2.2.1) ((p128bbfr k 2 (by omega) (by omega) (by omega) (by omega) (by omega) (by omega) (by omega)).trans ((p87bbfr k 2 (by omega) (by omega) (by omega) (by omega) (by omega) (by omega) (by omega) (by omega)).trans ((fr k 2 (by omega)).trans s2))) ⟨(p128bbfr (k + 1) _ (by omega) (by omega) (by omega) (by omega) (by omega) (by omega) (by omega)).trans w87.2.2.2.2.2.1, (p128bbfr (k + 2) _ (by omega) (by omega) (by omega) (by omega) (by omega) (by omega) (by omega)).trans (w87.2.2.2.2.2.2.1.trans p84hv), (p128bbfr (k + 3) _ (by omega) (by omega) (by omega) (by omega) (by omega) (by omega) (by omega)).trans (by have z := w87.2.2.2.2.2.2.2.1; omega)⟩ ⟨y2.2.2.1, (by have y3 := y2.2.2.2.1; show _ ≤ (((tVp c n 0 (tKd c (typ s + D) (tSk tSm c n (typ s + D))).toNat (tSk tSm c n (typ s + D)) (tFv (tKd c (typ s + D) (tSk tSm c n (typ s + D))).toNat (tyx s))) + (1 - 0) : Nat) : Int); omega)⟩ y2.2.2.2.2
                (fun w h1 h2 => (p128bbbfrL (k + 4) _ (by omega)).trans (w87.2.2.2.2.2.2.2.2.2 w h2)) (fun w h1 h2 => ⟨(p128bbfr (k + 5) _ (by omega) (by omega) (by omega) (by omega) (by omega) (by omega) (by omega)).trans (w87.2.2.2.2.2.2.2.2.1 w h2).1, (p128bbfr (k + 6) _ (by omega) (by omega) (by omega) (by omega) (by omega) (by omega) (by omega)).trans (w87.2.2.2.2.2.2.2.2.1 w h2).2⟩)
                (fun x j hx hj => (p128bbfr x j (by omega) (by omega) (by omega) (by omega) (by omega) (by omega) (by omega)).trans ((p87bbfr x j (by omega) (by omega) (by omega) (by omega) (by omega) (by omega) (by omega) (by omega)).trans ((fr x j (by omega)).trans rfl))) (fun x j hx hj => (p128bbfr x j (by omega) (by omega) (by omega) (by omega) (by omega) (by omega) (by omega)).trans ((p87bbfr x j (by omega) (by omega) (by omega) (by omega) (by omega) (by omega) (by omega) (by omega)).trans ((fr x j (by omega)).trans rfl))) (fun j hj => (p128bbfr (k + 7) j (by omega) (by omega) (by omega) (by omega) (by omega) (by omega) (by omega)).trans ((p87bbfr (k + 7) j (by omega) (by omega) (by omega) (by omega) (by omega) (by omega) (by omega) (by omega)).trans ((fr (k + 7) j (by omega)).trans rfl))) (fun j hj => (p128bbbfrL (k + 4) j (by omega)).trans (p87bbbfrL (k + 4) j (by omega)))) (fun x j h => zxcj (by omega) rfl) (fun x j h => rfl), zxe.trans (show _ = (((tVp c n 0 (tKd c (typ s + D) (tSk tSm c n (typ s + D))).toNat (tSk tSm c n (typ s + D)) (tFv (tKd c (typ s + D) (tSk tSm c n (typ s + D))).toNat (tyx s))) + (1 - 0) : Nat) : Int) by omega), zxs (by omega) y2.2.1, w87.2.1.trans tyy_O.symm⟩)
           | (exfalso
              have hz : tVz c n 0 (tKd c (typ s + D) (tSk tSm c n (typ s + D))).toNat (tSk tSm c n (typ s + D)) (tFv (tKd c (typ s + D) (tSk tSm c n (typ s + D))).toNat (tyx s)) ≠ -1 := by omega
              rw [tyB_vf hc em.2.1 (show (tKd c (typ s + D) (tSk tSm c n (typ s + D))) ≠ 9 by omega) hz] at h9
              exact hz h9)
           | (exfalso
              have hz : tVz c n 0 (tKd c (typ s + D) (tSk tSm c n (typ s + D))).toNat (tSk tSm c n (typ s + D)) (tFv (tKd c (typ s + D) (tSk tSm c n (typ s + D))).toNat (tyx s)) = -1 := by omega
              have y2 := p128bhok hz
              rw [tyB_vn (show (tKd c (typ s + D) (tSk tSm c n (typ s + D))) ≠ 9 by omega) hz (by omega)] at h9
              exact tyF_f h9)))
def T_K_rns : ZT := fun args I L R S Q => ∃ (c : Nat → Int) (n : Nat) (k : Nat), args = [zvr 61] ∧ (zSh S) ∧ (zRs R) ∧ (zSt I L) ∧ (R 61 0 = some 42) ∧ (zRD c n I) ∧ (tOk c n) ∧ (R 61 7 = some k) ∧ (zDy zT2 zF2 k R S) ∧ (43 ≤ k ∧ k ≤ 52) ∧ (I 61 2 = 0) ∧ (I 61 3 = -1) ∧ (I 61 6 = 0) ∧ (I 61 5 = 1) ∧ (I k 0 = 0) ∧ (I k 2 = 0) ∧ (I k 10 = 0) ∧ ∀ (I' : ZI) (L' : ZI), (zKF k c n 0 I' L') → (∀ c j : Nat, ¬ (c = 61 ∧ j = 2) → ¬ (c = 61 ∧ j = 3) → ¬ (c = 61 ∧ j = 5) → ¬ (c = k ∧ j = 0) → ¬ (c = k ∧ j = 2) → ¬ (c = k ∧ j = 10) → ¬ c = k + 1 → ¬ c = k + 2 → ¬ c = k + 3 → ¬ c = k + 5 → ¬ c = k + 6 → ¬ c = k + 7 → I' c j = I c j) → (∀ c j : Nat, ¬ c = k + 4 → L' c j = L c j) → Q none I' L' R S
theorem sn_K_rns : ZSnd 6 9 17 T_K_rns := ZSnd.loops (zT9_17 5) (by
  rintro args I L R S Q hz ⟨c, n, k, rfl, hS, hR, hT, htx, hX, hc, hob, hD, hk, hp, hf0, hnb, hxv, h0, h2, hcc0, hQ⟩
  obtain ⟨x1, x2⟩ := id hX
  have hn4 := hc.1
  have hk1 := hk.1
  have hk2 := hk.2
  refine ⟨[4], fun nM tM lsM stM I1 L1 R1 S1 => match tM with
      | 4 => ∃ (s : TyS) (y : Int) (f : Int) (z : Nat) (pl : Int), nM = ((5000 - z), 0, 0) ∧ lsM = [some (zvr (61)), some (zvi (y)), some (zvi (z))] ∧ stM = [] ∧ R1 = R ∧ S1 = S ∧ (z ≤ 4002) ∧ (tRe c n 0 s) ∧ (I1 61 3 = f) ∧ (f = tyf s) ∧ (-1 ≤ y ∧ y ≤ 199) ∧ (-1 ≤ f ∧ f ≤ 9000) ∧ (I1 61 2 = pl) ∧ (0 ≤ pl ∧ pl ≤ 4300) ∧ (f = -1 → zKO k c n 0 s I1 L1) ∧ (f = -1 → I1 61 2 = typ s ∧ I1 61 5 = tyx s ∧ y = tyy s (tyd s) ∧ z ≤ typ s ∧ (z ≠ 0 → tyn s ≠ 0) ∧ (z = 0 → tyn s = 0)) ∧ (∀ c j : Nat, ¬ (c = 61 ∧ j = 2) → ¬ (c = 61 ∧ j = 3) → ¬ (c = 61 ∧ j = 5) → ¬ (c = k ∧ j = 0) → ¬ (c = k ∧ j = 2) → ¬ (c = k ∧ j = 10) → ¬ c = k + 1 → ¬ c = k + 2 → ¬ c = k + 3 → ¬ c = k + 5 → ¬ c = k + 6 → ¬ c = k + 7 → I1 c j = I c j) ∧ (∀ c j : Nat, ¬ c = k + 4 → L1 c j = L c j)
      | _ => False, rfl, ?_, ⟨?_, True.intro⟩⟩
  · refine ⟨((5000 - (0 : Nat)), 0, 0), [some (zvr (61)), some (zvi (((-1) : Int))), some (zvi ((0 : Nat)))], ⟨rfl, (congrArg (fun z => some (zvi z)) (by omega)), rfl, rfl⟩, ty0, (-1), (-1), 0, 0, rfl, rfl, rfl, rfl, rfl, (by omega), tRe_0, hf0, rfl, (by omega), (by decide), hp, (by omega), (fun _ => zKO_0 h0 h2 hcc0), (fun _ => ⟨hp, hxv, rfl, Nat.zero_le _, fun w => absurd rfl w, fun _ => rfl⟩), (fun c j h0 h1 h2 h3 h4 h5 h6 h7 h8 h9 h10 h11 => rfl), (fun c j h0 => rfl)⟩
  · rintro nM lsM stM I1 L1 R1 S1 hz1 ⟨s, y, f, z, pl, rfl, rfl, rfl, rfl, rfl, hz, hre, hfv, hfs, hyb, hfb, hpl1, hpb, hko, hlin, fr, frL⟩
    have sg : f = -1 → tyg c n 0 s := fun h => tRe_g hc (by decide) hre (by omega)
    have sl : f = -1 → typ s ≤ n ∧ tyn s ≤ 200 := fun h => ⟨(sg h).1.2.2.2.1, (sg h).1.1⟩
    refine And.intro (zA_61 hS) (zrd (v := n) ((fr 61 1 (by omega) (by omega) (by omega) (by omega) (by omega) (by omega) (by omega) (by omega) (by omega) (by omega) (by omega) (by omega)).trans x1) ?_)
    refine And.intro ⟨(by omega), (by omega)⟩ ⟨fun h9 => ?_, fun h9 => ?_⟩
    · refine hQ _ _ ?_ (fun c j h0 h1 h2 h3 h4 h5 h6 h7 h8 h9 h10 h11 => ((fr c j h0 h1 h2 h3 h4 h5 h6 h7 h8 h9 h10 h11).trans rfl)) (fun c j h0 => ((frL c j h0).trans rfl))
      · by_cases h8 : tyf s = -1
        · have w1 := hlin (by omega)
          have w2 := sl (by omega)
          first
          | (exfalso; omega)
          | (have he : tyE n 0 s := Or.inr (Or.inr ⟨by decide, by omega, w1.2.2.2.2.1 (by omega)⟩)
             exact ⟨s, hre, he, (hfv.trans (by omega)).trans (tyZ_0 h8 (by decide)).symm, fun h9 => ⟨hko (by omega), w1.2.1⟩⟩)
        · exact ⟨s, hre, Or.inl h8, (hfv.trans hfs).trans (tyZ_f h8).symm, fun h9 => absurd ((tyZ_f h8).symm.trans h9) h8⟩
    · refine And.intro (zA_61 hS) (zrd (v := f) hfv ?_)
      refine And.intro ⟨(by omega), (zRb rfl)⟩ ⟨fun h17 => ?_, fun h17 => ?_⟩
      · refine hQ _ _ ?_ (fun c j h0 h1 h2 h3 h4 h5 h6 h7 h8 h9 h10 h11 => ((fr c j h0 h1 h2 h3 h4 h5 h6 h7 h8 h9 h10 h11).trans rfl)) (fun c j h0 => ((frL c j h0).trans rfl))
        · by_cases h8 : tyf s = -1
          · have w1 := hlin (by omega)
            have w2 := sl (by omega)
            first
            | (exfalso; omega)
            | (have he : tyE n 0 s := Or.inr (Or.inr ⟨by decide, by omega, w1.2.2.2.2.1 (by omega)⟩)
               exact ⟨s, hre, he, (hfv.trans (by omega)).trans (tyZ_0 h8 (by decide)).symm, fun h9 => ⟨hko (by omega), w1.2.1⟩⟩)
          · exact ⟨s, hre, Or.inl h8, (hfv.trans hfs).trans (tyZ_f h8).symm, fun h9 => absurd ((tyZ_f h8).symm.trans h9) h8⟩
      · refine And.intro (by omega) ⟨fun h21 => ?_, fun h21 => ?_⟩
        · refine And.intro (zA_61 hS) ⟨_, sn_K_rln.up (by decide), ?_⟩
          refine ⟨c, n, k, s, (y : Int), rfl, hS, hR, (zStf hT (fun c j h1 h2 => ⟨((fr c j (by omega) (by omega) (by omega) (by omega) (by omega) (by omega) (by omega) (by omega) (by omega) (by omega) (by omega) (by omega)).trans rfl), ((frL c j (by omega)).trans rfl)⟩)), htx, (by first | exact (zRD_fr hX (fun c j h => ((fr c j (by omega) (by omega) (by omega) (by omega) (by omega) (by omega) (by omega) (by omega) (by omega) (by omega) (by omega) (by omega)).trans rfl))) | (clear hQ; grind [xu])), (by first | exact hc | (clear hQ; grind [xu])), (hlin (by omega)).1, hob, hD, (by omega), ((fr 61 6 (by omega) (by omega) (by omega) (by omega) (by omega) (by omega) (by omega) (by omega) (by omega) (by omega) (by omega) (by omega)).trans hnb), (hko (by omega)), (hlin (by omega)).2.1, (sg (by omega)), (hlin (by omega)).2.2.1, (Eq.trans (b := (f : Int)) hfv (by omega)), ?_⟩
          intro v37o I37o L37o pl37o p37hf p37bhok p37bbhv p37bbbfr p37bbbbfrL p37bbbbbhpl9 p37bbbbbbhpb9
          refine ⟨((5000 - (z + 1)), 0, 0), zlt6 (by omega), [some (zvr (61)), some (zvi (v37o)), some (zvi ((z + 1)))], ⟨rfl, rfl, rfl, rfl⟩, (tyA c n 0 s), v37o, (tyf (tyA c n 0 s)), (z + 1), pl37o, rfl, rfl, rfl, rfl, rfl, (by omega), (tRe_s hre (tyE_l (by omega) (by have w := hlin (by omega); omega))), p37hf, rfl, (by omega), (tyA_b hc (by decide) (sg (by omega))), p37bbbbbhpl9, (by omega), (fun h9 => (p37bhok h9).1), ?_, (fun c j h0 h1 h2 h3 h4 h5 h6 h7 h8 h9 h10 h11 => ((p37bbbfr c j h0 h1 h2 h3 h4 h5 h6 h7 h8 h9 h10 h11).trans ((fr c j h0 h1 h2 h3 h4 h5 h6 h7 h8 h9 h10 h11).trans rfl))), (fun c j h0 => ((p37bbbbfrL c j h0).trans ((frL c j h0).trans rfl)))⟩
          · intro h9
            have w := p37bhok h9
            have w2 := tyA_m hc h9
            have w3 := hlin (by omega)
            exact ⟨w.2.1, w.2.2.1, w.2.2.2, by omega, fun _ => by omega, fun h => by omega⟩
        · refine And.intro (zA_61 hS) (zrd (v := pl) hpl1 ?_)
          refine And.intro (zA_61 hS) (zrd (v := n) ((fr 61 1 (by omega) (by omega) (by omega) (by omega) (by omega) (by omega) (by omega) (by omega) (by omega) (by omega) (by omega) (by omega)).trans x1) ?_)
          refine And.intro ⟨(by omega), (by omega)⟩ ⟨fun h32 => ?_, fun h32 => ?_⟩
          · refine hQ _ _ ?_ (fun c j h0 h1 h2 h3 h4 h5 h6 h7 h8 h9 h10 h11 => ((fr c j h0 h1 h2 h3 h4 h5 h6 h7 h8 h9 h10 h11).trans rfl)) (fun c j h0 => ((frL c j h0).trans rfl))
            · by_cases h8 : tyf s = -1
              · have w1 := hlin (by omega)
                have w2 := sl (by omega)
                first
                | (exfalso; omega)
                | (have he : tyE n 0 s := Or.inr (Or.inr ⟨by decide, by omega, w1.2.2.2.2.1 (by omega)⟩)
                   exact ⟨s, hre, he, (hfv.trans (by omega)).trans (tyZ_0 h8 (by decide)).symm, fun h9 => ⟨hko (by omega), w1.2.1⟩⟩)
              · exact ⟨s, hre, Or.inl h8, (hfv.trans hfs).trans (tyZ_f h8).symm, fun h9 => absurd ((tyZ_f h8).symm.trans h9) h8⟩
          · refine And.intro (zA_61 hS) ⟨_, sn_K_rln.up (by decide), ?_⟩
            refine ⟨c, n, k, s, (y : Int), rfl, hS, hR, (zStf hT (fun c j h1 h2 => ⟨((fr c j (by omega) (by omega) (by omega) (by omega) (by omega) (by omega) (by omega) (by omega) (by omega) (by omega) (by omega) (by omega)).trans rfl), ((frL c j (by omega)).trans rfl)⟩)), htx, (by first | exact (zRD_fr hX (fun c j h => ((fr c j (by omega) (by omega) (by omega) (by omega) (by omega) (by omega) (by omega) (by omega) (by omega) (by omega) (by omega) (by omega)).trans rfl))) | (clear hQ; grind [xu])), (by first | exact hc | (clear hQ; grind [xu])), (hlin (by omega)).1, hob, hD, (by omega), ((fr 61 6 (by omega) (by omega) (by omega) (by omega) (by omega) (by omega) (by omega) (by omega) (by omega) (by omega) (by omega) (by omega)).trans hnb), (hko (by omega)), (hlin (by omega)).2.1, (sg (by omega)), (hlin (by omega)).2.2.1, (Eq.trans (b := (f : Int)) hfv (by omega)), ?_⟩
            intro v37o I37o L37o pl37o p37hf p37bhok p37bbhv p37bbbfr p37bbbbfrL p37bbbbbhpl9 p37bbbbbbhpb9
            refine ⟨((5000 - (z + 1)), 0, 0), zlt6 (by omega), [some (zvr (61)), some (zvi (v37o)), some (zvi ((z + 1)))], ⟨rfl, rfl, rfl, rfl⟩, (tyA c n 0 s), v37o, (tyf (tyA c n 0 s)), (z + 1), pl37o, rfl, rfl, rfl, rfl, rfl, (by omega), (tRe_s hre (tyE_l (by omega) (by have w := hlin (by omega); omega))), p37hf, rfl, (by omega), (tyA_b hc (by decide) (sg (by omega))), p37bbbbbhpl9, (by omega), (fun h9 => (p37bhok h9).1), ?_, (fun c j h0 h1 h2 h3 h4 h5 h6 h7 h8 h9 h10 h11 => ((p37bbbfr c j h0 h1 h2 h3 h4 h5 h6 h7 h8 h9 h10 h11).trans ((fr c j h0 h1 h2 h3 h4 h5 h6 h7 h8 h9 h10 h11).trans rfl))), (fun c j h0 => ((p37bbbbfrL c j h0).trans ((frL c j h0).trans rfl)))⟩
            · intro h9
              have w := p37bhok h9
              have w2 := tyA_m hc h9
              have w3 := hlin (by omega)
              exact ⟨w.2.1, w.2.2.1, w.2.2.2, by omega, fun _ => by omega, fun h => by omega⟩)
