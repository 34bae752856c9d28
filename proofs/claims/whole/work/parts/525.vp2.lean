/-! vp2 -/
def T_V_rls : ZT := fun args I L R S Q => ∃ (k : Nat) (c : Nat → Int) (n : Nat) (mk : Int), args = [zvr k] ∧ (zDy zT20 zF20 k R S) ∧ (zRM k c n I) ∧ (tOk c n) ∧ (I k 15 = mk) ∧ (0 ≤ mk ∧ mk ≤ 1) ∧ (I k 17 = 0) ∧ (I k 22 = 0) ∧ (I k 18 = -1) ∧ ∀ (I' : ZI) (L' : ZI), (zVF k c n 1 mk I' L') → (∀ c j : Nat, ¬ (c = k ∧ j = 16) → ¬ (c = k ∧ j = 17) → ¬ (c = k ∧ j = 18) → ¬ (c = k ∧ j = 20) → ¬ (c = k ∧ j = 21) → ¬ (c = k ∧ j = 22) → ¬ (c = k ∧ j = 29) → ¬ (c = k + 2 ∧ mk = 1) → ¬ (c = k + 3 ∧ mk = 1) → ¬ (c = k + 5 ∧ mk = 1) → ¬ (c = k + 6 ∧ mk = 1) → ¬ (c = k + 7 ∧ mk = 1) → ¬ (c = k + 8 ∧ mk = 1) → ¬ (c = k + 9 ∧ mk = 1) → ¬ c = k + 10 → ¬ c = k + 11 → I' c j = I c j) → (∀ c j : Nat, ¬ (c = k ∧ j = 28) → ¬ (c = k + 4 ∧ mk = 1) → L' c j = L c j) → Q none I' L' R S
theorem sn_V_rls : ZSnd 7 20 35 T_V_rls := ZSnd.loops (zT20_35 6) (by
  rintro args I L R S Q hz ⟨k, c, n, mk, rfl, hD, hX, hc, hmk, hmk2, h17, h22, hf0, hQ⟩
  obtain ⟨x1, x2⟩ := id hX
  have hn4 := hc.1
  have hk40 := hD.1
  have sb0 := tSk_b (P := tBk) (p := 0) hc tBk_no
  refine ⟨[41], fun nM tM lsM stM I1 L1 R1 S1 => match tM with
      | 41 => ∃ (s : TyS) (q : Nat) (f : Int), nM = (((1 : Int) - (f + 1)).toNat, (6000 - q), 0) ∧ lsM = [some (zvr (k)), some (zvi (q))] ∧ stM = [] ∧ R1 = R ∧ S1 = S ∧ (q ≤ 5300) ∧ (tRe c n 1 s) ∧ (I1 k 18 = f) ∧ (f = tyf s) ∧ (-1 ≤ f ∧ f ≤ 9000) ∧ (I1 k 15 = mk) ∧ (f = -1 → zVO k c n 1 mk s I1 L1) ∧ (f = -1 → q = typ s ∧ I1 k 29 = tyd s ∧ tyn s ≠ 0) ∧ (∀ c j : Nat, ¬ (c = k ∧ j = 16) → ¬ (c = k ∧ j = 17) → ¬ (c = k ∧ j = 18) → ¬ (c = k ∧ j = 20) → ¬ (c = k ∧ j = 21) → ¬ (c = k ∧ j = 22) → ¬ (c = k ∧ j = 29) → ¬ (c = k + 2 ∧ mk = 1) → ¬ (c = k + 3 ∧ mk = 1) → ¬ (c = k + 5 ∧ mk = 1) → ¬ (c = k + 6 ∧ mk = 1) → ¬ (c = k + 7 ∧ mk = 1) → ¬ (c = k + 8 ∧ mk = 1) → ¬ (c = k + 9 ∧ mk = 1) → ¬ c = k + 10 → ¬ c = k + 11 → I1 c j = I c j) ∧ (∀ c j : Nat, ¬ (c = k ∧ j = 28) → ¬ (c = k + 4 ∧ mk = 1) → L1 c j = L c j)
      | _ => False, rfl, ?_, ⟨?_, True.intro⟩⟩
  · refine And.intro (zDX hD 0 rfl) ⟨_, sn_V_bl2.up (by decide), ?_⟩
    refine ⟨_, _, _, (0 : Int), 0, rfl, hD, (by first | exact (zRM_fr hX (fun c j h => rfl)) | (clear hQ; grind [xu])), (by first | exact hc | (clear hQ; grind [xu])), (by omega), ?_⟩
    intro v2o p2hv
    have g2 : 0 ≤ v2o := (by omega)
    refine And.intro (zDX hD 0 rfl) ⟨_, (zWi (zRb rfl)), ?_⟩
    refine And.intro (zDX hD 0 rfl) ⟨_, sn_V_c.up (by decide), ?_⟩
    refine ⟨_, _, _, (v2o : Int), (tSk tBk c n 0), rfl, hD, (by first | exact (zRM_fr hX (fun c j h => (zxcj (by omega) rfl))) | (clear hQ; grind [xu])), (by first | exact hc | (clear hQ; grind [xu])), (by omega), ?_⟩
    intro v13o p13hv p13bhv2
    refine And.intro ⟨(by omega), (zRb rfl)⟩ ⟨fun h18 => ?_, fun h18 => ?_⟩
    · refine And.intro (zDX hD 0 rfl) (zrd (v := (-1)) (zxs (by decide) hf0) ?_)
      refine And.intro ⟨(zRb rfl), (zRb rfl)⟩ (zbf rfl ?_)
      refine And.intro (zDX hD 0 rfl) ⟨_, sn_V_opn.up (by decide), ?_⟩
      refine ⟨_, _, _, ty0, mk, (v2o : Int), (tSk tBk c n 0), (0 : Int), rfl, hD, (by first | exact (zRM_fr hX (fun c j h => (zxcj (by omega) rfl))) | (clear hQ; grind [xu])), (by first | exact hc | (clear hQ; grind [xu])), (by omega), (by omega), rfl, (zVO_0 ((zxcj (by omega) rfl).trans h17) ((zxcj (by omega) rfl).trans h22)), tyg_0, (Nat.zero_le _), (fun _ => rfl), zxe, (zxs (by decide) hmk), (by omega), (Eq.trans (b := ((-1) : Int)) (zxs (by decide) hf0) (by omega)), ?_⟩
      intro v37o I37o L37o p37hf p37bhok p37bbhv p37bbbfr p37bbbbfrL
      refine ⟨(((1 : Int) - ((tyf (tyL c n ty0 (tSk tBk c n 0))) + 1)).toNat, (6000 - v37o.toNat), 0), [some (zvr (k)), some (zvi (v37o.toNat))], ⟨rfl, (congrArg (fun z => some (zvi z)) (by omega)), rfl⟩, (tyA c n 1 ty0), v37o.toNat, (tyf (tyL c n ty0 (tSk tBk c n 0))), rfl, rfl, rfl, rfl, rfl, (by omega), (tRe_s tRe_0 (tyE_n rfl (Or.inr rfl))), p37hf, ?_, ?_, ((p37bbbfr k 15 (by omega) (by omega) (by omega) (by omega) (by omega) (by omega) (by omega) (by omega) (by omega) (by omega) (by omega) (by omega) (by omega) (by omega) (by omega) (by omega)).trans (zxs (by decide) hmk)), ?_, ?_, (fun c j h0 h1 h2 h3 h4 h5 h6 h7 h8 h9 h10 h11 h12 h13 h14 h15 => ((p37bbbfr c j h0 h1 h2 h3 h4 h5 h6 h7 h8 h9 h10 h11 h12 h13 h14 h15).trans (zxcj h6 rfl))), (fun c j h0 h1 => ((p37bbbbfrL c j h0 h1).trans rfl))⟩
      · first
        | (rw [tyA_l (s := ty0) (show c (tSk tBk c n 0) = 40 by omega)]
           rfl)
        | (rw [tyA_f (s := ty0) (show c (tSk tBk c n 0) ≠ 40 by omega) (Or.inr rfl)]
           show _ = ((tSk tBk c n 0 : Nat) : Int)
           omega)
      · have w : -1 ≤ tyf (tyA c n 1 ty0) ∧ tyf (tyA c n 1 ty0) ≤ 9000 := tRe_b hc (Nat.le_refl 1) (tRe_s tRe_0 (tyE_n rfl (Or.inr rfl)))
        first
        | omega
        | (rw [tyA_l (s := ty0) (show c (tSk tBk c n 0) = 40 by omega)] at w
           exact w)
      · intro h9
        first
        | (exfalso; omega)
        | (rw [tyA_l (s := ty0) (show c (tSk tBk c n 0) = 40 by omega)]
           exact (p37bhok h9).1)
      · intro h9
        first
        | (exfalso; omega)
        | (rw [tyA_l (s := ty0) (show c (tSk tBk c n 0) = 40 by omega)]
           have w := p37bhok h9
           have w2 := tyL_m (s := ty0) hc h9
           refine ⟨?_, w.2.2, ?_⟩
           · have w3 := w.2.1
             show v37o.toNat = typ (tyL c n ty0 (tSk tBk c n 0))
             omega
           · show tyn (tyL c n ty0 (tSk tBk c n 0)) ≠ 0
             omega)
    · refine And.intro (zDX hD 0 rfl) (Exists.intro _ (And.intro (zinl_ok (zT20_9 5)) (And.intro rfl ?_)))
      refine And.intro (zDX hD 0 rfl) (zrd (v := (-1)) (zxs (by decide) hf0) ?_)
      refine And.intro ⟨(zRb rfl), (zRb rfl)⟩ (zbf rfl ?_)
      refine And.intro (zDX hD 0 rfl) ⟨_, (zWi (by omega)), ?_⟩
      refine And.intro (zDX hD 0 rfl) (zrd (v := v2o) zxe ?_)
      refine And.intro ⟨(by omega), (zRb rfl)⟩ ⟨fun h31 => ?_, (fun h31 => False.elim (by omega))⟩
      refine ⟨(((1 : Int) - (v2o + 1)).toNat, (6000 - (tSk tBk c n 0)), 0), [some (zvr (k)), some (zvi ((tSk tBk c n 0)))], ⟨rfl, (congrArg (fun z => some (zvi z)) (by omega)), rfl⟩, (tyA c n 1 ty0), (tSk tBk c n 0), v2o, rfl, rfl, rfl, rfl, rfl, (by omega), (tRe_s tRe_0 (tyE_n rfl (Or.inr rfl))), zxe, ?_, ?_, (zxs (by decide) (zxs (by decide) hmk)), ?_, ?_, (fun c j h0 h1 h2 h3 h4 h5 h6 h7 h8 h9 h10 h11 h12 h13 h14 h15 => (zxcj h2 (zxcj h6 rfl))), (fun c j h0 h1 => rfl)⟩
      · first
        | (rw [tyA_l (s := ty0) (show c (tSk tBk c n 0) = 40 by omega)]
           rfl)
        | (rw [tyA_f (s := ty0) (show c (tSk tBk c n 0) ≠ 40 by omega) (Or.inr rfl)]
           show _ = ((tSk tBk c n 0 : Nat) : Int)
           omega)
      · have w : -1 ≤ tyf (tyA c n 1 ty0) ∧ tyf (tyA c n 1 ty0) ≤ 9000 := tRe_b hc (Nat.le_refl 1) (tRe_s tRe_0 (tyE_n rfl (Or.inr rfl)))
        first
        | omega
        | (rw [tyA_l (s := ty0) (show c (tSk tBk c n 0) = 40 by omega)] at w
           exact w)
      · intro h9
        first
        | (exfalso; omega)
        | (rw [tyA_l (s := ty0) (show c (tSk tBk c n 0) = 40 by omega)]
           exact (p37bhok h9).1)
      · intro h9
        first
        | (exfalso; omega)
        | (rw [tyA_l (s := ty0) (show c (tSk tBk c n 0) = 40 by omega)]
           have w := p37bhok h9
           have w2 := tyL_m (s := ty0) hc h9
           refine ⟨?_, w.2.2, ?_⟩
           · have w3 := w.2.1
             show v37o.toNat = typ (tyL c n ty0 (tSk tBk c n 0))
             omega
           · show tyn (tyL c n ty0 (tSk tBk c n 0)) ≠ 0
             omega)
  · rintro nM lsM stM I1 L1 R1 S1 hz1 ⟨s, q, f, rfl, rfl, rfl, rfl, rfl, hqb, hre, hfv, hfs, hfb, hmkv, hko, hlin, fr, frL⟩
    have sg : f = -1 → tyg c n 1 s := fun h => tRe_g hc (Nat.le_refl 1) hre (by omega)
    have sl : f = -1 → typ s ≤ n ∧ tyn s ≤ 200 ∧ tyd s ≤ 100 := fun h => ⟨(sg h).1.2.2.2.1, (sg h).1.1, (sg h).1.2.2.2.2.2.1 rfl⟩
    have sb := tSk_b (P := tBk) (p := typ s) hc tBk_no
    have sq := tSk_b (P := tBk) (p := q) hc tBk_no
    have tb : f = -1 → tyd s ≠ 0 → -1 ≤ tyf (tyA c n 1 s) ∧ tyf (tyA c n 1 s) ≤ 9000 := fun h _ => tyA_b hc (Nat.le_refl 1) (sg h)
    refine And.intro (zDX hD 0 rfl) (zrd (v := f) hfv ?_)
    refine And.intro ⟨(by omega), (zRb rfl)⟩ ⟨fun h46 => ?_, fun h46 => ?_⟩
    · refine And.intro (zDX hD 0 rfl) ⟨_, sn_V_bl2.up (by decide), ?_⟩
      refine ⟨_, _, _, (q : Int), q, rfl, hD, (by first | exact (zRM_fr hX (fun c j h => ((fr c j (by omega) (by omega) (by omega) (by omega) (by omega) (by omega) (by omega) (by omega) (by omega) (by omega) (by omega) (by omega) (by omega) (by omega) (by omega) (by omega)).trans rfl))) | (clear hQ; grind [xu])), (by first | exact hc | (clear hQ; grind [xu])), (by omega), ?_⟩
      intro v121o p121hv
      refine And.intro (zDX hD 0 rfl) (zrd (v := n) ((fr k 3 (by omega) (by omega) (by omega) (by omega) (by omega) (by omega) (by omega) (by omega) (by omega) (by omega) (by omega) (by omega) (by omega) (by omega) (by omega) (by omega)).trans x1) ?_)
      refine And.intro ⟨(by omega), (by omega)⟩ ⟨fun h130 => ?_, fun h130 => ?_⟩
      · refine hQ _ _ ?_ (fun c j h0 h1 h2 h3 h4 h5 h6 h7 h8 h9 h10 h11 h12 h13 h14 h15 => ((fr c j h0 h1 h2 h3 h4 h5 h6 h7 h8 h9 h10 h11 h12 h13 h14 h15).trans rfl)) (fun c j h0 h1 => ((frL c j h0 h1).trans rfl))
        · first
          | (have h8 : tyf s ≠ -1 := by omega
             exact ⟨s, hre, Or.inl h8, (hfv.trans hfs).trans (tyZ_f h8).symm, fun h9 => absurd ((tyZ_f h8).symm.trans h9) h8⟩)
          | (have h8 : tyf s = -1 := by omega
             have w := hlin (by omega)
             have he : tyE n 1 s := Or.inr (Or.inl ⟨rfl, by omega, w.2.2⟩)
             have eq := w.1
             subst eq
             first
             | exact ⟨s, hre, he, zxe.trans (by rw [tyZ_b h8 (by omega)]; omega), fun h9 => by exfalso; rw [tyZ_b h8 (by omega)] at h9; omega⟩
             | exact ⟨s, hre, he, hfv.trans (by rw [tyZ_e h8 (by omega)]; omega), fun h9 => hko (by omega)⟩)
      · refine And.intro (zDX hD 0 rfl) (Exists.intro _ (And.intro (zinl_ok (zT20_9 5)) (And.intro rfl ?_)))
        refine And.intro (zDX hD 0 rfl) (zrd (v := f) hfv ?_)
        refine And.intro ⟨(by omega), (zRb rfl)⟩ ⟨fun h5_135 => ?_, (fun h5_135 => False.elim (by omega))⟩
        refine hQ _ _ ?_ (fun c j h0 h1 h2 h3 h4 h5 h6 h7 h8 h9 h10 h11 h12 h13 h14 h15 => ((fr c j h0 h1 h2 h3 h4 h5 h6 h7 h8 h9 h10 h11 h12 h13 h14 h15).trans rfl)) (fun c j h0 h1 => ((frL c j h0 h1).trans rfl))
        · first
          | (have h8 : tyf s ≠ -1 := by omega
             exact ⟨s, hre, Or.inl h8, (hfv.trans hfs).trans (tyZ_f h8).symm, fun h9 => absurd ((tyZ_f h8).symm.trans h9) h8⟩)
          | (have h8 : tyf s = -1 := by omega
             have w := hlin (by omega)
             have he : tyE n 1 s := Or.inr (Or.inl ⟨rfl, by omega, w.2.2⟩)
             have eq := w.1
             subst eq
             first
             | exact ⟨s, hre, he, zxe.trans (by rw [tyZ_b h8 (by omega)]; omega), fun h9 => by exfalso; rw [tyZ_b h8 (by omega)] at h9; omega⟩
             | exact ⟨s, hre, he, hfv.trans (by rw [tyZ_e h8 (by omega)]; omega), fun h9 => hko (by omega)⟩)
    · refine And.intro (zDX hD 0 rfl) (fun v50 e50 r50 => ?_)
      refine And.intro r50 ⟨fun h53 => ?_, fun h53 => ?_⟩
      · refine And.intro (zDX hD 0 rfl) ⟨_, sn_V_bl2.up (by decide), ?_⟩
        refine ⟨_, _, _, (q : Int), q, rfl, hD, (by first | exact (zRM_fr hX (fun c j h => ((fr c j (by omega) (by omega) (by omega) (by omega) (by omega) (by omega) (by omega) (by omega) (by omega) (by omega) (by omega) (by omega) (by omega) (by omega) (by omega) (by omega)).trans rfl))) | (clear hQ; grind [xu])), (by first | exact hc | (clear hQ; grind [xu])), (by omega), ?_⟩
        intro v121o p121hv
        refine And.intro (zDX hD 0 rfl) (zrd (v := n) ((fr k 3 (by omega) (by omega) (by omega) (by omega) (by omega) (by omega) (by omega) (by omega) (by omega) (by omega) (by omega) (by omega) (by omega) (by omega) (by omega) (by omega)).trans x1) ?_)
        refine And.intro ⟨(by omega), (by omega)⟩ ⟨fun h130 => ?_, fun h130 => ?_⟩
        · refine hQ _ _ ?_ (fun c j h0 h1 h2 h3 h4 h5 h6 h7 h8 h9 h10 h11 h12 h13 h14 h15 => ((fr c j h0 h1 h2 h3 h4 h5 h6 h7 h8 h9 h10 h11 h12 h13 h14 h15).trans rfl)) (fun c j h0 h1 => ((frL c j h0 h1).trans rfl))
          · first
            | (have h8 : tyf s ≠ -1 := by omega
               exact ⟨s, hre, Or.inl h8, (hfv.trans hfs).trans (tyZ_f h8).symm, fun h9 => absurd ((tyZ_f h8).symm.trans h9) h8⟩)
            | (have h8 : tyf s = -1 := by omega
               have w := hlin (by omega)
               have he : tyE n 1 s := Or.inr (Or.inl ⟨rfl, by omega, w.2.2⟩)
               have eq := w.1
               subst eq
               first
               | exact ⟨s, hre, he, zxe.trans (by rw [tyZ_b h8 (by omega)]; omega), fun h9 => by exfalso; rw [tyZ_b h8 (by omega)] at h9; omega⟩
               | exact ⟨s, hre, he, hfv.trans (by rw [tyZ_e h8 (by omega)]; omega), fun h9 => hko (by omega)⟩)
        · refine And.intro (zDX hD 0 rfl) (Exists.intro _ (And.intro (zinl_ok (zT20_9 5)) (And.intro rfl ?_)))
          refine And.intro (zDX hD 0 rfl) (zrd (v := f) hfv ?_)
          refine And.intro ⟨(by omega), (zRb rfl)⟩ ⟨(fun h5_135 => False.elim (by omega)), fun h5_135 => ?_⟩
          refine And.intro (zDX hD 0 rfl) ⟨_, (zWi (by omega)), ?_⟩
          refine hQ _ _ ?_ (fun c j h0 h1 h2 h3 h4 h5 h6 h7 h8 h9 h10 h11 h12 h13 h14 h15 => (zxcj h2 ((fr c j h0 h1 h2 h3 h4 h5 h6 h7 h8 h9 h10 h11 h12 h13 h14 h15).trans rfl))) (fun c j h0 h1 => ((frL c j h0 h1).trans rfl))
          · first
            | (have h8 : tyf s ≠ -1 := by omega
               exact ⟨s, hre, Or.inl h8, (hfv.trans hfs).trans (tyZ_f h8).symm, fun h9 => absurd ((tyZ_f h8).symm.trans h9) h8⟩)
            | (have h8 : tyf s = -1 := by omega
               have w := hlin (by omega)
               have he : tyE n 1 s := Or.inr (Or.inl ⟨rfl, by omega, w.2.2⟩)
               have eq := w.1
               subst eq
               first
               | exact ⟨s, hre, he, zxe.trans (by rw [tyZ_b h8 (by omega)]; omega), fun h9 => by exfalso; rw [tyZ_b h8 (by omega)] at h9; omega⟩
               | exact ⟨s, hre, he, hfv.trans (by rw [tyZ_e h8 (by omega)]; omega), fun h9 => hko (by omega)⟩)
      · refine And.intro (zDX hD 0 rfl) ⟨_, sn_V_bl2.up (by decide), ?_⟩
        refine ⟨_, _, _, (q : Int), (typ s), rfl, hD, (by first | exact (zRM_fr hX (fun c j h => ((fr c j (by omega) (by omega) (by omega) (by omega) (by omega) (by omega) (by omega) (by omega) (by omega) (by omega) (by omega) (by omega) (by omega) (by omega) (by omega) (by omega)).trans rfl))) | (clear hQ; grind [xu])), (by first | exact hc | (clear hQ; grind [xu])), (by have w := hlin (by omega); have w2 := sl (by omega); exact ⟨by omega, by omega⟩), ?_⟩
        intro v58o p58hv
        refine And.intro (zDX hD 0 rfl) ⟨_, sn_V_c.up (by decide), ?_⟩
        refine ⟨_, _, _, (v58o : Int), (tSk tBk c n (typ s)), rfl, hD, (by first | exact (zRM_fr hX (fun c j h => ((fr c j (by omega) (by omega) (by omega) (by omega) (by omega) (by omega) (by omega) (by omega) (by omega) (by omega) (by omega) (by omega) (by omega) (by omega) (by omega) (by omega)).trans rfl))) | (clear hQ; grind [xu])), (by first | exact hc | (clear hQ; grind [xu])), (by omega), ?_⟩
        intro v64o p64hv p64bhv2
        refine And.intro ⟨(by omega), (zRb rfl)⟩ ⟨fun h69 => ?_, fun h69 => ?_⟩
        · refine And.intro (zDX hD 0 rfl) ⟨_, sn_V_c.up (by decide), ?_⟩
          refine ⟨_, _, _, (v58o : Int), (tSk tBk c n (typ s)), rfl, hD, (by first | exact (zRM_fr hX (fun c j h => ((fr c j (by omega) (by omega) (by omega) (by omega) (by omega) (by omega) (by omega) (by omega) (by omega) (by omega) (by omega) (by omega) (by omega) (by omega) (by omega) (by omega)).trans rfl))) | (clear hQ; grind [xu])), (by first | exact hc | (clear hQ; grind [xu])), (by omega), ?_⟩
          intro v87o p87hv p87bhv2
          refine And.intro ⟨(by omega), (zRb rfl)⟩ ⟨fun h92 => ?_, fun h92 => ?_⟩
          · refine And.intro (zDX hD 0 rfl) (Exists.intro _ (And.intro (zinl_ok (zT20_9 5)) (And.intro rfl ?_)))
            refine And.intro (zDX hD 0 rfl) (zrd (v := f) hfv ?_)
            refine And.intro ⟨(by omega), (zRb rfl)⟩ ⟨(fun h5_113 => False.elim (by omega)), fun h5_113 => ?_⟩
            refine And.intro (zDX hD 0 rfl) ⟨_, (zWi (by omega)), ?_⟩
            refine ⟨(((1 : Int) - (v58o + 1)).toNat, (6000 - (tSk tBk c n (typ s))), 0), zlt6 (by have w := hlin (by omega); have w2 := sl (by omega); first | omega | (have w4 := tb (by omega) (by omega); rw [tyA_l (c := c) (n := n) (s := s) (by omega)] at w4; by_cases h8 : tyf (tyL c n s (tSk tBk c n (typ s))) = -1; (have w5 := tyL_m hc h8; have w6 := (p78bhok h8).2.1; omega); omega)), [some (zvr (k)), some (zvi ((tSk tBk c n (typ s))))], ⟨rfl, (congrArg (fun z => some (zvi z)) (by omega)), rfl⟩, (tyA c n 1 s), (tSk tBk c n (typ s)), v58o, rfl, rfl, rfl, rfl, rfl, (by have w := hlin (by omega); have w2 := sl (by omega); omega), (tRe_s hre (tyE_n (by omega) (Or.inl (by have w := hlin (by omega); omega)))), zxe, ?_, ?_, (zxs (by decide) hmkv), ?_, ?_, (fun c j h0 h1 h2 h3 h4 h5 h6 h7 h8 h9 h10 h11 h12 h13 h14 h15 => (zxcj h2 ((fr c j h0 h1 h2 h3 h4 h5 h6 h7 h8 h9 h10 h11 h12 h13 h14 h15).trans rfl))), (fun c j h0 h1 => ((frL c j h0 h1).trans rfl))⟩
            · have w := hlin (by omega)
              first
              | (rw [tyA_l (c := c) (n := n) (s := s) (by omega)]; done)
              | (rw [tyA_c (c := c) (n := n) (s := s) (by omega) (by omega)]
                 show _ = (-1 : Int)
                 omega)
              | (rw [tyA_f (c := c) (n := n) (s := s) (by omega) (Or.inl (by omega))]
                 show _ = (((tSk tBk c n (typ s)) : Nat) : Int)
                 omega)
            · have w := hlin (by omega)
              have w2 := sl (by omega)
              first
              | omega
              | (have w := tb (by omega) (by omega)
                 rw [tyA_l (c := c) (n := n) (s := s) (by omega)] at w
                 exact w)
            · intro h9
              have w := hlin (by omega)
              first
              | (exfalso; omega)
              | (rw [tyA_l (c := c) (n := n) (s := s) (by omega)]
                 exact (p78bhok h9).1)
              | (rw [tyA_c (c := c) (n := n) (s := s) (by omega) (by omega)]
                 exact zVO_fr (zVO_C (hko (by omega))) (fun x j h => zxcj (by omega) rfl) (fun x j h => rfl))
            · intro h9
              have w := hlin (by omega)
              first
              | (exfalso; omega)
              | (rw [tyA_l (c := c) (n := n) (s := s) (by omega)]
                 have w2 := p78bhok h9
                 have w3 := tyL_m hc h9
                 exact ⟨by omega, w2.2.2, by omega⟩)
              | (rw [tyA_c (c := c) (n := n) (s := s) (by omega) (by omega)]
                 exact ⟨rfl, zxe.trans (show _ = ((tyd s - 1 : Nat) : Int) by omega), (show tyn s ≠ 0 by omega)⟩)
          · refine And.intro (zDX hD 0 rfl) (fun v97 e97 r97 => ?_)
            refine And.intro (zDX hD 0 rfl) ⟨_, (zWi (by omega)), ?_⟩
            refine ⟨(((1 : Int) - (f + 1)).toNat, (6000 - ((tSk tBk c n (typ s)) + 1)), 0), zlt6 (by have w := hlin (by omega); have w2 := sl (by omega); first | omega | (have w4 := tb (by omega) (by omega); rw [tyA_l (c := c) (n := n) (s := s) (by omega)] at w4; by_cases h8 : tyf (tyL c n s (tSk tBk c n (typ s))) = -1; (have w5 := tyL_m hc h8; have w6 := (p78bhok h8).2.1; omega); omega)), [some (zvr (k)), some (zvi (((tSk tBk c n (typ s)) + 1)))], ⟨rfl, (congrArg (fun z => some (zvi z)) (by omega)), rfl⟩, (tyA c n 1 s), ((tSk tBk c n (typ s)) + 1), f, rfl, rfl, rfl, rfl, rfl, (by have w := hlin (by omega); have w2 := sl (by omega); omega), (tRe_s hre (tyE_n (by omega) (Or.inl (by have w := hlin (by omega); omega)))), (zxs (by decide) hfv), ?_, ?_, (zxs (by decide) hmkv), ?_, ?_, (fun c j h0 h1 h2 h3 h4 h5 h6 h7 h8 h9 h10 h11 h12 h13 h14 h15 => (zxcj h6 ((fr c j h0 h1 h2 h3 h4 h5 h6 h7 h8 h9 h10 h11 h12 h13 h14 h15).trans rfl))), (fun c j h0 h1 => ((frL c j h0 h1).trans rfl))⟩
            · have w := hlin (by omega)
              first
              | (rw [tyA_l (c := c) (n := n) (s := s) (by omega)]; done)
              | (rw [tyA_c (c := c) (n := n) (s := s) (by omega) (by omega)]
                 show _ = (-1 : Int)
                 omega)
              | (rw [tyA_f (c := c) (n := n) (s := s) (by omega) (Or.inl (by omega))]
                 show _ = (((tSk tBk c n (typ s)) : Nat) : Int)
                 omega)
            · have w := hlin (by omega)
              have w2 := sl (by omega)
              first
              | omega
              | (have w := tb (by omega) (by omega)
                 rw [tyA_l (c := c) (n := n) (s := s) (by omega)] at w
                 exact w)
            · intro h9
              have w := hlin (by omega)
              first
              | (exfalso; omega)
              | (rw [tyA_l (c := c) (n := n) (s := s) (by omega)]
                 exact (p78bhok h9).1)
              | (rw [tyA_c (c := c) (n := n) (s := s) (by omega) (by omega)]
                 exact zVO_fr (zVO_C (hko (by omega))) (fun x j h => zxcj (by omega) rfl) (fun x j h => rfl))
            · intro h9
              have w := hlin (by omega)
              first
              | (exfalso; omega)
              | (rw [tyA_l (c := c) (n := n) (s := s) (by omega)]
                 have w2 := p78bhok h9
                 have w3 := tyL_m hc h9
                 exact ⟨by omega, w2.2.2, by omega⟩)
              | (rw [tyA_c (c := c) (n := n) (s := s) (by omega) (by omega)]
                 exact ⟨rfl, zxe.trans (show _ = ((tyd s - 1 : Nat) : Int) by omega), (show tyn s ≠ 0 by omega)⟩)
        · refine And.intro (zDX hD 0 rfl) (fun v75 e75 r75 => ?_)
          refine And.intro (zDX hD 0 rfl) ⟨_, sn_V_opn.up (by decide), ?_⟩
          refine ⟨_, _, _, s, mk, (v58o : Int), (tSk tBk c n (typ s)), (v75 : Int), rfl, hD, (by first | exact (zRM_fr hX (fun c j h => ((fr c j (by omega) (by omega) (by omega) (by omega) (by omega) (by omega) (by omega) (by omega) (by omega) (by omega) (by omega) (by omega) (by omega) (by omega) (by omega) (by omega)).trans rfl))) | (clear hQ; grind [xu])), (by first | exact hc | (clear hQ; grind [xu])), (by have w2 := sl (by omega); exact ⟨by omega, by omega⟩), (by omega), (by have w := hlin (by omega); omega), (hko (by omega)), (sg (by omega)), (by omega), (fun e => by exfalso; have w := hlin (by omega); omega), (hlin (by omega)).2.1, hmkv, (by omega), (Eq.trans (b := (f : Int)) hfv (by omega)), ?_⟩
          intro v78o I78o L78o p78hf p78bhok p78bbhv p78bbbfr p78bbbbfrL
          refine ⟨(((1 : Int) - ((tyf (tyL c n s (tSk tBk c n (typ s)))) + 1)).toNat, (6000 - v78o.toNat), 0), zlt6 (by have w := hlin (by omega); have w2 := sl (by omega); first | omega | (have w4 := tb (by omega) (by omega); rw [tyA_l (c := c) (n := n) (s := s) (by omega)] at w4; by_cases h8 : tyf (tyL c n s (tSk tBk c n (typ s))) = -1; (have w5 := tyL_m hc h8; have w6 := (p78bhok h8).2.1; omega); omega)), [some (zvr (k)), some (zvi (v78o.toNat))], ⟨rfl, (congrArg (fun z => some (zvi z)) (by omega)), rfl⟩, (tyA c n 1 s), v78o.toNat, (tyf (tyL c n s (tSk tBk c n (typ s)))), rfl, rfl, rfl, rfl, rfl, (by have w := hlin (by omega); have w2 := sl (by omega); omega), (tRe_s hre (tyE_n (by omega) (Or.inl (by have w := hlin (by omega); omega)))), p78hf, ?_, ?_, ((p78bbbfr k 15 (by omega) (by omega) (by omega) (by omega) (by omega) (by omega) (by omega) (by omega) (by omega) (by omega) (by omega) (by omega) (by omega) (by omega) (by omega) (by omega)).trans hmkv), ?_, ?_, (fun c j h0 h1 h2 h3 h4 h5 h6 h7 h8 h9 h10 h11 h12 h13 h14 h15 => ((p78bbbfr c j h0 h1 h2 h3 h4 h5 h6 h7 h8 h9 h10 h11 h12 h13 h14 h15).trans ((fr c j h0 h1 h2 h3 h4 h5 h6 h7 h8 h9 h10 h11 h12 h13 h14 h15).trans rfl))), (fun c j h0 h1 => ((p78bbbbfrL c j h0 h1).trans ((frL c j h0 h1).trans rfl)))⟩
          · have w := hlin (by omega)
            first
            | (rw [tyA_l (c := c) (n := n) (s := s) (by omega)]; done)
            | (rw [tyA_c (c := c) (n := n) (s := s) (by omega) (by omega)]
               show _ = (-1 : Int)
               omega)
            | (rw [tyA_f (c := c) (n := n) (s := s) (by omega) (Or.inl (by omega))]
               show _ = (((tSk tBk c n (typ s)) : Nat) : Int)
               omega)
          · have w := hlin (by omega)
            have w2 := sl (by omega)
            first
            | omega
            | (have w := tb (by omega) (by omega)
               rw [tyA_l (c := c) (n := n) (s := s) (by omega)] at w
               exact w)
          · intro h9
            have w := hlin (by omega)
            first
            | (exfalso; omega)
            | (rw [tyA_l (c := c) (n := n) (s := s) (by omega)]
               exact (p78bhok h9).1)
            | (rw [tyA_c (c := c) (n := n) (s := s) (by omega) (by omega)]
               exact zVO_fr (zVO_C (hko (by omega))) (fun x j h => zxcj (by omega) rfl) (fun x j h => rfl))
          · intro h9
            have w := hlin (by omega)
            first
            | (exfalso; omega)
            | (rw [tyA_l (c := c) (n := n) (s := s) (by omega)]
               have w2 := p78bhok h9
               have w3 := tyL_m hc h9
               exact ⟨by omega, w2.2.2, by omega⟩)
            | (rw [tyA_c (c := c) (n := n) (s := s) (by omega) (by omega)]
               exact ⟨rfl, zxe.trans (show _ = ((tyd s - 1 : Nat) : Int) by omega), (show tyn s ≠ 0 by omega)⟩))
