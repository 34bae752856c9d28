/-! vs2 -/
def T_V_rns : ZT := fun args I L R S Q => ∃ (k : Nat) (c : Nat → Int) (n : Nat) (mk : Int), args = [zvr k] ∧ (zDy zT20 zF20 k R S) ∧ (zRM k c n I) ∧ (tOk c n) ∧ (I k 15 = mk) ∧ (0 ≤ mk ∧ mk ≤ 1) ∧ (I k 17 = 0) ∧ (I k 22 = 0) ∧ (I k 18 = -1) ∧ ∀ (I' : ZI) (L' : ZI), (zVF k c n 0 mk I' L') → (∀ c j : Nat, ¬ (c = k ∧ j = 16) → ¬ (c = k ∧ j = 17) → ¬ (c = k ∧ j = 18) → ¬ (c = k ∧ j = 20) → ¬ (c = k ∧ j = 21) → ¬ (c = k ∧ j = 22) → ¬ (c = k ∧ j = 30) → ¬ (c = k + 2 ∧ mk = 1) → ¬ (c = k + 3 ∧ mk = 1) → ¬ (c = k + 5 ∧ mk = 1) → ¬ (c = k + 6 ∧ mk = 1) → ¬ (c = k + 7 ∧ mk = 1) → ¬ (c = k + 8 ∧ mk = 1) → ¬ (c = k + 9 ∧ mk = 1) → ¬ c = k + 10 → ¬ c = k + 11 → I' c j = I c j) → (∀ c j : Nat, ¬ (c = k ∧ j = 28) → ¬ (c = k + 4 ∧ mk = 1) → L' c j = L c j) → Q none I' L' R S
theorem sn_V_rns : ZSnd 7 20 34 T_V_rns := ZSnd.loops (zT20_34 6) (by
  rintro args I L R S Q hz ⟨k, c, n, mk, rfl, hD, hX, hc, hmk, hmk2, h17, h22, hf0, hQ⟩
  obtain ⟨x1, x2⟩ := id hX
  have hn4 := hc.1
  have hk40 := hD.1
  refine ⟨[7], fun nM tM lsM stM I1 L1 R1 S1 => match tM with
      | 7 => ∃ (s : TyS) (q : Nat) (f : Int), nM = (((1 : Int) - (f + 1)).toNat, (6000 - q), 0) ∧ lsM = [some (zvr (k)), some (zvi (q)), none] ∧ stM = [] ∧ R1 = R ∧ S1 = S ∧ (q ≤ 5300) ∧ (tRe c n 0 s) ∧ (I1 k 18 = f) ∧ (f = tyf s) ∧ (-1 ≤ f ∧ f ≤ 9000) ∧ (I1 k 15 = mk) ∧ (f = -1 → zVO k c n 0 mk s I1 L1) ∧ (f = -1 → q = typ s ∧ I1 k 30 = (tyd s : Int) - 1) ∧ (∀ c j : Nat, ¬ (c = k ∧ j = 16) → ¬ (c = k ∧ j = 17) → ¬ (c = k ∧ j = 18) → ¬ (c = k ∧ j = 20) → ¬ (c = k ∧ j = 21) → ¬ (c = k ∧ j = 22) → ¬ (c = k ∧ j = 30) → ¬ (c = k + 2 ∧ mk = 1) → ¬ (c = k + 3 ∧ mk = 1) → ¬ (c = k + 5 ∧ mk = 1) → ¬ (c = k + 6 ∧ mk = 1) → ¬ (c = k + 7 ∧ mk = 1) → ¬ (c = k + 8 ∧ mk = 1) → ¬ (c = k + 9 ∧ mk = 1) → ¬ c = k + 10 → ¬ c = k + 11 → I1 c j = I c j) ∧ (∀ c j : Nat, ¬ (c = k ∧ j = 28) → ¬ (c = k + 4 ∧ mk = 1) → L1 c j = L c j)
      | _ => False, rfl, ?_, ⟨?_, True.intro⟩⟩
  · refine And.intro (zDX hD 0 rfl) ⟨_, (zWi (zRb rfl)), ?_⟩
    refine ⟨(((1 : Int) - (((-1) : Int) + 1)).toNat, (6000 - (0 : Nat)), 0), [some (zvr (k)), some (zvi ((0 : Nat))), none], ⟨rfl, rfl, rfl⟩, ty0, 0, (-1), rfl, rfl, rfl, rfl, rfl, (by omega), tRe_0, (zxs (by decide) hf0), rfl, (by omega), (zxs (by decide) hmk), (fun _ => zVO_0 ((zxcj (by omega) rfl).trans h17) ((zxcj (by omega) rfl).trans h22)), (fun _ => ⟨rfl, zxe.trans (by show (-1 : Int) = ((0 : Nat) : Int) - 1; omega)⟩), (fun c j h0 h1 h2 h3 h4 h5 h6 h7 h8 h9 h10 h11 h12 h13 h14 h15 => (zxcj h6 rfl)), (fun c j h0 h1 => rfl)⟩
  · rintro nM lsM stM I1 L1 R1 S1 hz1 ⟨s, q, f, rfl, rfl, rfl, rfl, rfl, hqb, hre, hfv, hfs, hfb, hmkv, hko, hlin, fr, frL⟩
    have sg : f = -1 → tyg c n 0 s := fun h => tRe_g hc (by decide) hre (by omega)
    have sl : f = -1 → typ s ≤ n ∧ tyn s ≤ 200 ∧ tyd s ≤ tyn s ∧ (tyn s = 0 ↔ typ s = 0) ∧ (tyd s = 0 ↔ typ s = 0) := fun h => ⟨(sg h).1.2.2.2.1, (sg h).1.1, (sg h).1.2.2.2.2.1, (sg h).1.2.2.2.2.2.2.2.1, (sg h).1.2.2.2.2.2.2.2.2 (by decide)⟩
    have sd := tSk_b (P := tDo) (p := typ s) hc tDo_no
    have sdd : tyD c n s = tSk tDo c n (typ s) - typ s := rfl
    have tb : f = -1 → -1 ≤ tyf (tyA c n 0 s) ∧ tyf (tyA c n 0 s) ≤ 9000 := fun h => tyA_b hc (by decide) (sg h)
    refine And.intro (zDX hD 0 rfl) (zrd (v := f) hfv ?_)
    refine And.intro ⟨(by omega), (zRb rfl)⟩ ⟨fun h12 => ?_, fun h12 => ?_⟩
    · refine hQ _ _ ?_ (fun c j h0 h1 h2 h3 h4 h5 h6 h7 h8 h9 h10 h11 h12 h13 h14 h15 => ((fr c j h0 h1 h2 h3 h4 h5 h6 h7 h8 h9 h10 h11 h12 h13 h14 h15).trans rfl)) (fun c j h0 h1 => ((frL c j h0 h1).trans rfl))
      · first
        | (have h8 : tyf s ≠ -1 := by omega
           exact ⟨s, hre, Or.inl h8, (hfv.trans hfs).trans (tyZ_f h8).symm, fun h9 => absurd ((tyZ_f h8).symm.trans h9) h8⟩)
        | (have h8 : tyf s = -1 := by omega
           have w := hlin (by omega)
           have w2 := sl (by omega)
           have he : tyE n 0 s := Or.inr (Or.inr ⟨by decide, by omega, by omega⟩)
           exact ⟨s, hre, he, hfv.trans (by rw [tyZ_0 h8 (by decide)]; omega), fun h9 => hko (by omega)⟩)
    · refine And.intro (zDX hD 0 rfl) (zrd (v := n) ((fr k 3 (by omega) (by omega) (by omega) (by omega) (by omega) (by omega) (by omega) (by omega) (by omega) (by omega) (by omega) (by omega) (by omega) (by omega) (by omega) (by omega)).trans x1) ?_)
      refine And.intro ⟨(by omega), (by omega)⟩ ⟨fun h20 => ?_, fun h20 => ?_⟩
      · refine And.intro (zDX hD 0 rfl) ⟨_, sn_V_dot.up (by decide), ?_⟩
        refine ⟨_, _, _, (q : Int), (typ s), rfl, hD, (by first | exact (zRM_fr hX (fun c j h => ((fr c j (by omega) (by omega) (by omega) (by omega) (by omega) (by omega) (by omega) (by omega) (by omega) (by omega) (by omega) (by omega) (by omega) (by omega) (by omega) (by omega)).trans rfl))) | (clear hQ; grind [xu])), (by first | exact hc | (clear hQ; grind [xu])), (by have w := hlin (by omega); have w2 := sl (by omega); exact ⟨by omega, by omega⟩), ?_⟩
        intro v29o p29hv p29bhv2
        have g29 : v29o = tyD c n s ∧ 0 ≤ v29o := ⟨p29hv, by omega⟩
        refine And.intro (zDX hD 0 rfl) (fun v35 e35 r35 => ?_)
        refine And.intro ⟨(by omega), (by omega)⟩ ⟨fun h40 => ?_, fun h40 => ?_⟩
        · refine And.intro (by omega) ⟨fun h59 => ?_, fun h59 => ?_⟩
          · refine And.intro (zDX hD 0 rfl) ⟨_, sn_V_rln.up (by decide), ?_⟩
            refine ⟨_, _, _, s, mk, (tyD c n s), (q : Int), (v29o : Int), rfl, hD, (by first | exact (zRM_fr hX (fun c j h => ((fr c j (by omega) (by omega) (by omega) (by omega) (by omega) (by omega) (by omega) (by omega) (by omega) (by omega) (by omega) (by omega) (by omega) (by omega) (by omega) (by omega)).trans rfl))) | (clear hQ; grind [xu])), (by first | exact hc | (clear hQ; grind [xu])), (by have w := hlin (by omega); omega), (by omega), (by have w := hlin (by omega); have w2 := sl (by omega); exact ⟨rfl, by omega, fun e => by omega, by omega⟩), (hko (by omega)), (sg (by omega)), (hlin (by omega)).2, hmkv, (by omega), (Eq.trans (b := (f : Int)) hfv (by omega)), ?_⟩
            intro v77o I77o L77o p77hf p77bhok p77bbhv p77bbbfr p77bbbbfrL
            refine ⟨(((1 : Int) - ((tyf (tyA c n 0 s)) + 1)).toNat, (6000 - v77o.toNat), 0), zlt6 (by have w := hlin (by omega); have w2 := sl (by omega); have w4 := tb (by omega); first | omega | (by_cases h8 : tyf (tyA c n 0 s) = -1; (have w5 := tyA_m hc h8; have w6 := (p77bhok h8).2.1; omega); omega)), [some (zvr (k)), some (zvi (v77o.toNat)), none], ⟨rfl, (congrArg (fun z => some (zvi z)) (by omega)), rfl⟩, (tyA c n 0 s), v77o.toNat, (tyf (tyA c n 0 s)), rfl, rfl, rfl, rfl, rfl, (by have w := hlin (by omega); have w2 := sl (by omega); omega), (tRe_s hre (tyE_l (by omega) (by have w := hlin (by omega); have w2 := sl (by omega); omega))), p77hf, ?_, ?_, ((p77bbbfr k 15 (by omega) (by omega) (by omega) (by omega) (by omega) (by omega) (by omega) (by omega) (by omega) (by omega) (by omega) (by omega) (by omega) (by omega) (by omega) (by omega)).trans hmkv), ?_, ?_, (fun c j h0 h1 h2 h3 h4 h5 h6 h7 h8 h9 h10 h11 h12 h13 h14 h15 => ((p77bbbfr c j h0 h1 h2 h3 h4 h5 h6 h7 h8 h9 h10 h11 h12 h13 h14 h15).trans ((fr c j h0 h1 h2 h3 h4 h5 h6 h7 h8 h9 h10 h11 h12 h13 h14 h15).trans rfl))), (fun c j h0 h1 => ((p77bbbbfrL c j h0 h1).trans ((frL c j h0 h1).trans rfl)))⟩
            · have w := hlin (by omega)
              have w2 := sl (by omega)
              first
              | rfl
              | (rw [tyA_0, if_pos (by omega)]
                 show _ = ((typ s + tyd s : Nat) : Int)
                 omega)
              | (rw [tyA_0, if_neg (by omega), if_pos ⟨by omega, by omega⟩]
                 show _ = ((typ s : Nat) : Int)
                 omega)
            · have w := hlin (by omega)
              have w2 := sl (by omega)
              have w3 := tb (by omega)
              first
              | omega
              | exact w3
            · intro h9
              have w := hlin (by omega)
              first
              | exact (p77bhok h9).1
              | (exfalso; omega)
            · intro h9
              have w := hlin (by omega)
              first
              | (have w2 := p77bhok h9
                 exact ⟨by omega, w2.2.2⟩)
              | (exfalso; omega)
          · refine And.intro (by omega) ⟨fun h63 => ?_, fun h63 => ?_⟩
            · refine And.intro (zDX hD 0 rfl) ⟨_, sn_V_rln.up (by decide), ?_⟩
              refine ⟨_, _, _, s, mk, (tyD c n s), (q : Int), (v29o : Int), rfl, hD, (by first | exact (zRM_fr hX (fun c j h => ((fr c j (by omega) (by omega) (by omega) (by omega) (by omega) (by omega) (by omega) (by omega) (by omega) (by omega) (by omega) (by omega) (by omega) (by omega) (by omega) (by omega)).trans rfl))) | (clear hQ; grind [xu])), (by first | exact hc | (clear hQ; grind [xu])), (by have w := hlin (by omega); omega), (by omega), (by have w := hlin (by omega); have w2 := sl (by omega); exact ⟨rfl, by omega, fun e => by omega, by omega⟩), (hko (by omega)), (sg (by omega)), (hlin (by omega)).2, hmkv, (by omega), (Eq.trans (b := (f : Int)) hfv (by omega)), ?_⟩
              intro v77o I77o L77o p77hf p77bhok p77bbhv p77bbbfr p77bbbbfrL
              refine ⟨(((1 : Int) - ((tyf (tyA c n 0 s)) + 1)).toNat, (6000 - v77o.toNat), 0), zlt6 (by have w := hlin (by omega); have w2 := sl (by omega); have w4 := tb (by omega); first | omega | (by_cases h8 : tyf (tyA c n 0 s) = -1; (have w5 := tyA_m hc h8; have w6 := (p77bhok h8).2.1; omega); omega)), [some (zvr (k)), some (zvi (v77o.toNat)), none], ⟨rfl, (congrArg (fun z => some (zvi z)) (by omega)), rfl⟩, (tyA c n 0 s), v77o.toNat, (tyf (tyA c n 0 s)), rfl, rfl, rfl, rfl, rfl, (by have w := hlin (by omega); have w2 := sl (by omega); omega), (tRe_s hre (tyE_l (by omega) (by have w := hlin (by omega); have w2 := sl (by omega); omega))), p77hf, ?_, ?_, ((p77bbbfr k 15 (by omega) (by omega) (by omega) (by omega) (by omega) (by omega) (by omega) (by omega) (by omega) (by omega) (by omega) (by omega) (by omega) (by omega) (by omega) (by omega)).trans hmkv), ?_, ?_, (fun c j h0 h1 h2 h3 h4 h5 h6 h7 h8 h9 h10 h11 h12 h13 h14 h15 => ((p77bbbfr c j h0 h1 h2 h3 h4 h5 h6 h7 h8 h9 h10 h11 h12 h13 h14 h15).trans ((fr c j h0 h1 h2 h3 h4 h5 h6 h7 h8 h9 h10 h11 h12 h13 h14 h15).trans rfl))), (fun c j h0 h1 => ((p77bbbbfrL c j h0 h1).trans ((frL c j h0 h1).trans rfl)))⟩
              · have w := hlin (by omega)
                have w2 := sl (by omega)
                first
                | rfl
                | (rw [tyA_0, if_pos (by omega)]
                   show _ = ((typ s + tyd s : Nat) : Int)
                   omega)
                | (rw [tyA_0, if_neg (by omega), if_pos ⟨by omega, by omega⟩]
                   show _ = ((typ s : Nat) : Int)
                   omega)
              · have w := hlin (by omega)
                have w2 := sl (by omega)
                have w3 := tb (by omega)
                first
                | omega
                | exact w3
              · intro h9
                have w := hlin (by omega)
                first
                | exact (p77bhok h9).1
                | (exfalso; omega)
              · intro h9
                have w := hlin (by omega)
                first
                | (have w2 := p77bhok h9
                   exact ⟨by omega, w2.2.2⟩)
                | (exfalso; omega)
            · refine And.intro (zDX hD 0 rfl) (Exists.intro _ (And.intro (zinl_ok (zT20_9 5)) (And.intro rfl ?_)))
              refine And.intro (zDX hD 0 rfl) (zrd (v := f) hfv ?_)
              refine And.intro ⟨(by omega), (zRb rfl)⟩ ⟨(fun h5_68 => False.elim (by omega)), fun h5_68 => ?_⟩
              refine And.intro (zDX hD 0 rfl) ⟨_, (zWi (by omega)), ?_⟩
              refine ⟨(((1 : Int) - (q + 1)).toNat, (6000 - q), 0), zlt6 (by have w := hlin (by omega); have w2 := sl (by omega); have w4 := tb (by omega); first | omega | (by_cases h8 : tyf (tyA c n 0 s) = -1; (have w5 := tyA_m hc h8; have w6 := (p77bhok h8).2.1; omega); omega)), [some (zvr (k)), some (zvi (q)), none], ⟨rfl, rfl, rfl⟩, (tyA c n 0 s), q, q, rfl, rfl, rfl, rfl, rfl, (by have w := hlin (by omega); have w2 := sl (by omega); omega), (tRe_s hre (tyE_l (by omega) (by have w := hlin (by omega); have w2 := sl (by omega); omega))), zxe, ?_, ?_, (zxs (by decide) hmkv), ?_, ?_, (fun c j h0 h1 h2 h3 h4 h5 h6 h7 h8 h9 h10 h11 h12 h13 h14 h15 => (zxcj h2 ((fr c j h0 h1 h2 h3 h4 h5 h6 h7 h8 h9 h10 h11 h12 h13 h14 h15).trans rfl))), (fun c j h0 h1 => ((frL c j h0 h1).trans rfl))⟩
              · have w := hlin (by omega)
                have w2 := sl (by omega)
                first
                | rfl
                | (rw [tyA_0, if_pos (by omega)]
                   show _ = ((typ s + tyd s : Nat) : Int)
                   omega)
                | (rw [tyA_0, if_neg (by omega), if_pos ⟨by omega, by omega⟩]
                   show _ = ((typ s : Nat) : Int)
                   omega)
              · have w := hlin (by omega)
                have w2 := sl (by omega)
                have w3 := tb (by omega)
                first
                | omega
                | exact w3
              · intro h9
                have w := hlin (by omega)
                first
                | exact (p77bhok h9).1
                | (exfalso; omega)
              · intro h9
                have w := hlin (by omega)
                first
                | (have w2 := p77bhok h9
                   exact ⟨by omega, w2.2.2⟩)
                | (exfalso; omega)
        · refine And.intro (zDX hD 0 rfl) (fun v46 e46 r46 => ?_)
          refine And.intro (zDX hD 0 rfl) (Exists.intro _ (And.intro (zinl_ok (zT20_9 5)) (And.intro rfl ?_)))
          refine And.intro (zDX hD 0 rfl) (zrd (v := f) hfv ?_)
          refine And.intro ⟨(by omega), (zRb rfl)⟩ ⟨(fun h5_52 => False.elim (by omega)), fun h5_52 => ?_⟩
          refine And.intro (zDX hD 0 rfl) ⟨_, (zWi (by omega)), ?_⟩
          refine ⟨(((1 : Int) - (((q + v46) + 1) + 1)).toNat, (6000 - q), 0), zlt6 (by have w := hlin (by omega); have w2 := sl (by omega); have w4 := tb (by omega); first | omega | (by_cases h8 : tyf (tyA c n 0 s) = -1; (have w5 := tyA_m hc h8; have w6 := (p77bhok h8).2.1; omega); omega)), [some (zvr (k)), some (zvi (q)), none], ⟨rfl, rfl, rfl⟩, (tyA c n 0 s), q, ((q + v46) + 1), rfl, rfl, rfl, rfl, rfl, (by have w := hlin (by omega); have w2 := sl (by omega); omega), (tRe_s hre (tyE_l (by omega) (by have w := hlin (by omega); have w2 := sl (by omega); omega))), zxe, ?_, ?_, (zxs (by decide) hmkv), ?_, ?_, (fun c j h0 h1 h2 h3 h4 h5 h6 h7 h8 h9 h10 h11 h12 h13 h14 h15 => (zxcj h2 ((fr c j h0 h1 h2 h3 h4 h5 h6 h7 h8 h9 h10 h11 h12 h13 h14 h15).trans rfl))), (fun c j h0 h1 => ((frL c j h0 h1).trans rfl))⟩
          · have w := hlin (by omega)
            have w2 := sl (by omega)
            first
            | rfl
            | (rw [tyA_0, if_pos (by omega)]
               show _ = ((typ s + tyd s : Nat) : Int)
               omega)
            | (rw [tyA_0, if_neg (by omega), if_pos ⟨by omega, by omega⟩]
               show _ = ((typ s : Nat) : Int)
               omega)
          · have w := hlin (by omega)
            have w2 := sl (by omega)
            have w3 := tb (by omega)
            first
            | omega
            | exact w3
          · intro h9
            have w := hlin (by omega)
            first
            | exact (p77bhok h9).1
            | (exfalso; omega)
          · intro h9
            have w := hlin (by omega)
            first
            | (have w2 := p77bhok h9
               exact ⟨by omega, w2.2.2⟩)
            | (exfalso; omega)
      · refine And.intro (by omega) ⟨fun h24 => ?_, fun h24 => ?_⟩
        · refine hQ _ _ ?_ (fun c j h0 h1 h2 h3 h4 h5 h6 h7 h8 h9 h10 h11 h12 h13 h14 h15 => ((fr c j h0 h1 h2 h3 h4 h5 h6 h7 h8 h9 h10 h11 h12 h13 h14 h15).trans rfl)) (fun c j h0 h1 => ((frL c j h0 h1).trans rfl))
          · first
            | (have h8 : tyf s ≠ -1 := by omega
               exact ⟨s, hre, Or.inl h8, (hfv.trans hfs).trans (tyZ_f h8).symm, fun h9 => absurd ((tyZ_f h8).symm.trans h9) h8⟩)
            | (have h8 : tyf s = -1 := by omega
               have w := hlin (by omega)
               have w2 := sl (by omega)
               have he : tyE n 0 s := Or.inr (Or.inr ⟨by decide, by omega, by omega⟩)
               exact ⟨s, hre, he, hfv.trans (by rw [tyZ_0 h8 (by decide)]; omega), fun h9 => hko (by omega)⟩)
        · refine And.intro (zDX hD 0 rfl) ⟨_, sn_V_dot.up (by decide), ?_⟩
          refine ⟨_, _, _, (q : Int), (typ s), rfl, hD, (by first | exact (zRM_fr hX (fun c j h => ((fr c j (by omega) (by omega) (by omega) (by omega) (by omega) (by omega) (by omega) (by omega) (by omega) (by omega) (by omega) (by omega) (by omega) (by omega) (by omega) (by omega)).trans rfl))) | (clear hQ; grind [xu])), (by first | exact hc | (clear hQ; grind [xu])), (by have w := hlin (by omega); have w2 := sl (by omega); exact ⟨by omega, by omega⟩), ?_⟩
          intro v29o p29hv p29bhv2
          have g29 : v29o = tyD c n s ∧ 0 ≤ v29o := ⟨p29hv, by omega⟩
          refine And.intro (zDX hD 0 rfl) (fun v35 e35 r35 => ?_)
          refine And.intro ⟨(by omega), (by omega)⟩ ⟨fun h40 => ?_, fun h40 => ?_⟩
          · refine And.intro (by omega) ⟨(fun h59 => False.elim (by omega)), fun h59 => ?_⟩
            refine And.intro (by omega) ⟨fun h63 => ?_, (fun h63 => False.elim (by omega))⟩
            refine And.intro (zDX hD 0 rfl) ⟨_, sn_V_rln.up (by decide), ?_⟩
            refine ⟨_, _, _, s, mk, (tyD c n s), (q : Int), (v29o : Int), rfl, hD, (by first | exact (zRM_fr hX (fun c j h => ((fr c j (by omega) (by omega) (by omega) (by omega) (by omega) (by omega) (by omega) (by omega) (by omega) (by omega) (by omega) (by omega) (by omega) (by omega) (by omega) (by omega)).trans rfl))) | (clear hQ; grind [xu])), (by first | exact hc | (clear hQ; grind [xu])), (by have w := hlin (by omega); omega), (by omega), (by have w := hlin (by omega); have w2 := sl (by omega); exact ⟨rfl, by omega, fun e => by omega, by omega⟩), (hko (by omega)), (sg (by omega)), (hlin (by omega)).2, hmkv, (by omega), (Eq.trans (b := (f : Int)) hfv (by omega)), ?_⟩
            intro v77o I77o L77o p77hf p77bhok p77bbhv p77bbbfr p77bbbbfrL
            refine ⟨(((1 : Int) - ((tyf (tyA c n 0 s)) + 1)).toNat, (6000 - v77o.toNat), 0), zlt6 (by have w := hlin (by omega); have w2 := sl (by omega); have w4 := tb (by omega); first | omega | (by_cases h8 : tyf (tyA c n 0 s) = -1; (have w5 := tyA_m hc h8; have w6 := (p77bhok h8).2.1; omega); omega)), [some (zvr (k)), some (zvi (v77o.toNat)), none], ⟨rfl, (congrArg (fun z => some (zvi z)) (by omega)), rfl⟩, (tyA c n 0 s), v77o.toNat, (tyf (tyA c n 0 s)), rfl, rfl, rfl, rfl, rfl, (by have w := hlin (by omega); have w2 := sl (by omega); omega), (tRe_s hre (tyE_l (by omega) (by have w := hlin (by omega); have w2 := sl (by omega); omega))), p77hf, ?_, ?_, ((p77bbbfr k 15 (by omega) (by omega) (by omega) (by omega) (by omega) (by omega) (by omega) (by omega) (by omega) (by omega) (by omega) (by omega) (by omega) (by omega) (by omega) (by omega)).trans hmkv), ?_, ?_, (fun c j h0 h1 h2 h3 h4 h5 h6 h7 h8 h9 h10 h11 h12 h13 h14 h15 => ((p77bbbfr c j h0 h1 h2 h3 h4 h5 h6 h7 h8 h9 h10 h11 h12 h13 h14 h15).trans ((fr c j h0 h1 h2 h3 h4 h5 h6 h7 h8 h9 h10 h11 h12 h13 h14 h15).trans rfl))), (fun c j h0 h1 => ((p77bbbbfrL c j h0 h1).trans ((frL c j h0 h1).trans rfl)))⟩
            · have w := hlin (by omega)
              have w2 := sl (by omega)
              first
              | rfl
              | (rw [tyA_0, if_pos (by omega)]
                 show _ = ((typ s + tyd s : Nat) : Int)
                 omega)
              | (rw [tyA_0, if_neg (by omega), if_pos ⟨by omega, by omega⟩]
                 show _ = ((typ s : Nat) : Int)
                 omega)
            · have w := hlin (by omega)
              have w2 := sl (by omega)
              have w3 := tb (by omega)
              first
              | omega
              | exact w3
            · intro h9
              have w := hlin (by omega)
              first
              | exact (p77bhok h9).1
              | (exfalso; omega)
            · intro h9
              have w := hlin (by omega)
              first
              | (have w2 := p77bhok h9
                 exact ⟨by omega, w2.2.2⟩)
              | (exfalso; omega)
          · refine And.intro (zDX hD 0 rfl) (fun v46 e46 r46 => ?_)
            refine And.intro (zDX hD 0 rfl) (Exists.intro _ (And.intro (zinl_ok (zT20_9 5)) (And.intro rfl ?_)))
            refine And.intro (zDX hD 0 rfl) (zrd (v := f) hfv ?_)
            refine And.intro ⟨(by omega), (zRb rfl)⟩ ⟨(fun h5_52 => False.elim (by omega)), fun h5_52 => ?_⟩
            refine And.intro (zDX hD 0 rfl) ⟨_, (zWi (by omega)), ?_⟩
            refine ⟨(((1 : Int) - (((q + v46) + 1) + 1)).toNat, (6000 - q), 0), zlt6 (by have w := hlin (by omega); have w2 := sl (by omega); have w4 := tb (by omega); first | omega | (by_cases h8 : tyf (tyA c n 0 s) = -1; (have w5 := tyA_m hc h8; have w6 := (p77bhok h8).2.1; omega); omega)), [some (zvr (k)), some (zvi (q)), none], ⟨rfl, rfl, rfl⟩, (tyA c n 0 s), q, ((q + v46) + 1), rfl, rfl, rfl, rfl, rfl, (by have w := hlin (by omega); have w2 := sl (by omega); omega), (tRe_s hre (tyE_l (by omega) (by have w := hlin (by omega); have w2 := sl (by omega); omega))), zxe, ?_, ?_, (zxs (by decide) hmkv), ?_, ?_, (fun c j h0 h1 h2 h3 h4 h5 h6 h7 h8 h9 h10 h11 h12 h13 h14 h15 => (zxcj h2 ((fr c j h0 h1 h2 h3 h4 h5 h6 h7 h8 h9 h10 h11 h12 h13 h14 h15).trans rfl))), (fun c j h0 h1 => ((frL c j h0 h1).trans rfl))⟩
            · have w := hlin (by omega)
              have w2 := sl (by omega)
              first
              | rfl
              | (rw [tyA_0, if_pos (by omega)]
                 show _ = ((typ s + tyd s : Nat) : Int)
                 omega)
              | (rw [tyA_0, if_neg (by omega), if_pos ⟨by omega, by omega⟩]
                 show _ = ((typ s : Nat) : Int)
                 omega)
            · have w := hlin (by omega)
              have w2 := sl (by omega)
              have w3 := tb (by omega)
              first
              | omega
              | exact w3
            · intro h9
              have w := hlin (by omega)
              first
              | exact (p77bhok h9).1
              | (exfalso; omega)
            · intro h9
              have w := hlin (by omega)
              first
              | (have w2 := p77bhok h9
                 exact ⟨by omega, w2.2.2⟩)
              | (exfalso; omega))
def T_V_go : ZT := fun args I L R S Q => ∃ (k : Nat) (c : Nat → Int) (n : Nat) (mk : Int) (fm : Int), args = [zvr k, zvi mk] ∧ (zDy zT20 zF20 k R S) ∧ (zRM k c n I) ∧ (tOk c n) ∧ (0 ≤ mk ∧ mk ≤ 1) ∧ (I k 1 = fm) ∧ (0 ≤ fm ∧ fm ≤ 1) ∧ ∀ (I' : ZI) (L' : ZI), ((fm = 0 ∧ zVF k c n 1 mk I' L') ∨ (fm = 1 ∧ zVF k c n 0 mk I' L')) → (∀ c j : Nat, ¬ (c = k ∧ j = 15) → ¬ (c = k ∧ j = 16) → ¬ (c = k ∧ j = 17) → ¬ (c = k ∧ j = 18) → ¬ (c = k ∧ j = 20) → ¬ (c = k ∧ j = 21) → ¬ (c = k ∧ j = 22) → ¬ (c = k ∧ j = 29) → ¬ (c = k ∧ j = 30) → ¬ (c = k + 2 ∧ mk = 1) → ¬ (c = k + 3 ∧ mk = 1) → ¬ (c = k + 5 ∧ mk = 1) → ¬ (c = k + 6 ∧ mk = 1) → ¬ (c = k + 7 ∧ mk = 1) → ¬ (c = k + 8 ∧ mk = 1) → ¬ (c = k + 9 ∧ mk = 1) → ¬ c = k + 10 → ¬ c = k + 11 → I' c j = I c j) → (∀ c j : Nat, ¬ (c = k ∧ j = 28) → ¬ (c = k + 4 ∧ mk = 1) → L' c j = L c j) → Q none I' L' R S
theorem sn_V_go : ZSnd 8 20 13 T_V_go := ZSnd.of (zT20_13 7) (by
  rintro args I L R S Q hz ⟨k, c, n, mk, fm, rfl, hD, hX, hc, hmk2, hfm, hfm2, hQ⟩
  obtain ⟨x1, x2⟩ := id hX
  have hn4 := hc.1
  have hk40 := hD.1
  refine And.intro rfl ?_
  refine And.intro ⟨(zDX hD 0 rfl), (by omega)⟩ ?_
  refine And.intro (zDX hD 0 rfl) ⟨_, (zWi (zRb rfl)), ?_⟩
  refine And.intro (zDX hD 0 rfl) ⟨_, (zWi (zRb rfl)), ?_⟩
  refine And.intro (zDX hD 0 rfl) ⟨_, (zWi (zRb rfl)), ?_⟩
  refine And.intro (zDX hD 0 rfl) (zrd (v := fm) (zxs (by decide) (zxs (by decide) (zxs (by decide) (zxs (by decide) hfm)))) ?_)
  refine And.intro (by omega) ⟨fun h24 => ?_, fun h24 => ?_⟩
  · refine And.intro (zDX hD 0 rfl) ⟨_, sn_V_rns.up (by decide), ?_⟩
    refine ⟨_, _, _, mk, rfl, hD, (by first | exact (zRM_fr hX (fun c j h => (zxcj (by omega) (zxcj (by omega) (zxcj (by omega) (zxcj (by omega) rfl)))))) | (clear hQ; grind [xu])), (by first | exact hc | (clear hQ; grind [xu])), (zxs (by decide) (zxs (by decide) (zxs (by decide) zxe))), (by omega), (zxs (by decide) zxe), zxe, (Eq.trans (b := ((-1) : Int)) (zxs (by decide) (zxs (by decide) zxe)) (by omega)), ?_⟩
    intro I35o L35o p35hF p35bfr p35bbfrL
    refine hQ _ _ (by first | exact Or.inl ⟨by omega, p28hF⟩ | exact Or.inr ⟨by omega, p35hF⟩) (fun c j h0 h1 h2 h3 h4 h5 h6 h7 h8 h9 h10 h11 h12 h13 h14 h15 h16 h17 => ((p35bfr c j h1 h2 h3 h4 h5 h6 h8 h9 h10 h11 h12 h13 h14 h15 h16 h17).trans (zxcj h6 (zxcj h2 (zxcj h3 (zxcj h0 rfl)))))) (fun c j h0 h1 => ((p35bbfrL c j h0 h1).trans rfl))
  · refine And.intro (zDX hD 0 rfl) ⟨_, sn_V_rls.up (by decide), ?_⟩
    refine ⟨_, _, _, mk, rfl, hD, (by first | exact (zRM_fr hX (fun c j h => (zxcj (by omega) (zxcj (by omega) (zxcj (by omega) (zxcj (by omega) rfl)))))) | (clear hQ; grind [xu])), (by first | exact hc | (clear hQ; grind [xu])), (zxs (by decide) (zxs (by decide) (zxs (by decide) zxe))), (by omega), (zxs (by decide) zxe), zxe, (Eq.trans (b := ((-1) : Int)) (zxs (by decide) (zxs (by decide) zxe)) (by omega)), ?_⟩
    intro I28o L28o p28hF p28bfr p28bbfrL
    refine hQ _ _ (by first | exact Or.inl ⟨by omega, p28hF⟩ | exact Or.inr ⟨by omega, p35hF⟩) (fun c j h0 h1 h2 h3 h4 h5 h6 h7 h8 h9 h10 h11 h12 h13 h14 h15 h16 h17 => ((p28bfr c j h1 h2 h3 h4 h5 h6 h7 h9 h10 h11 h12 h13 h14 h15 h16 h17).trans (zxcj h6 (zxcj h2 (zxcj h3 (zxcj h0 rfl)))))) (fun c j h0 h1 => ((p28bbfrL c j h0 h1).trans rfl)))
