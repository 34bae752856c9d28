/-! stom3 -/
def T_B_food : ZT := fun args I L R S Q => ∃ (b : Nat) (a : Nat) (g : Nat → Int) (s : StS) (f : Nat → Int) (N : Nat), args = [zvr 268, zvi b] ∧ (zSh S) ∧ (zRs R) ∧ (stG a s) ∧ (a ≤ 400) ∧ (zMS s I) ∧ (zMF s I) ∧ (∀ j : Nat, j < 400 → I 270 j = g j) ∧ (I 268 3 = N) ∧ (∀ i : Nat, i < N → I 269 i = f i) ∧ (N ≤ 24) ∧ (b < sB s) ∧ ∀ (v : Int), ((v = 1 ∧ stSm g s f N b) ∨ (v = 0 ∧ ¬ stSm g s f N b)) → Q (some (zvi (v))) I L R S
theorem sn_B_food : ZSnd 1 13 6 T_B_food := ZSnd.loops (zT13_6 0) (by
  rintro args I L R S Q hz ⟨b, a, g, s, f, N, rfl, hS, hR, hG, ha, hST, hMF, hlg, hN, hf, hN24, hb, hQ⟩
  obtain ⟨g1, g2, g3, g4⟩ := id hG
  obtain ⟨hsb, hsv, hsl, hsc⟩ := id hST
  refine ⟨[30], fun nM tM lsM stM I1 L1 R1 S1 => match tM with
      | 30 => ∃ (x : Nat) (u : Int), nM = ((25 - x), 0, 0) ∧ lsM = [some (zvr (268)), some (zvi (b)), some (zvi (u)), some (zvi (x))] ∧ stM = [] ∧ I1 = I ∧ L1 = L ∧ R1 = R ∧ S1 = S ∧ (x ≤ N) ∧ (u = 0 ∨ u = 1) ∧ (u = 1 → sT s b = 1 ∧ sL s b = N) ∧ (u = 1 → ∀ i : Nat, i < x → g (sF s b + i) = f i) ∧ (u = 0 → ¬ stSm g s f N b)
      | _ => False, rfl, ?_, ⟨?_, True.intro⟩⟩
  · refine And.intro (zA_268 hS) (zrdR (v := some 276) (zR_268_14 hR) ?_)
    refine And.intro (Or.inr (zP_276 hS (by omega) (by omega))) (fun v5 e5 r5 => ?_)
    have f5 : v5 = sT s b := (e5.trans (hsl b (by omega)).2)
    have f5b : v5 ≤ 1 := (by have := (g4 b (by omega)).2.1; omega)
    refine And.intro r5 ⟨fun h6 => ?_, fun h6 => ?_⟩
    · refine ⟨((25 - (0 : Nat)), 0, 0), [some (zvr (268)), some (zvi (b)), some (zvi ((0 : Int))), some (zvi ((0 : Nat)))], ⟨rfl, rfl, rfl, rfl, rfl⟩, 0, 0, rfl, rfl, rfl, rfl, rfl, rfl, rfl, (by omega), (by first | exact Or.inl rfl | exact Or.inr rfl), (fun h => by first | exact absurd h (by decide) | omega), (fun _ i h => absurd h (Nat.not_lt_zero i)), (fun h => by first | exact absurd h (by decide) | (rintro ⟨q1, q2, -⟩; omega))⟩
    · refine And.intro (zA_268 hS) (zrdR (v := some 275) (zR_268_13 hR) ?_)
      refine And.intro (zP_275 hS (by omega) (by omega)) (fun v14 e14 r14 => ?_)
      have f14 : v14 = sL s b := (e14.trans (hsl b (by omega)).1)
      refine And.intro (zA_268 hS) (zrd (v := N) hN ?_)
      refine And.intro ⟨r14, (by omega)⟩ ⟨fun h19 => ?_, fun h19 => ?_⟩
      · refine ⟨((25 - (0 : Nat)), 0, 0), [some (zvr (268)), some (zvi (b)), some (zvi ((0 : Int))), some (zvi ((0 : Nat)))], ⟨rfl, rfl, rfl, rfl, rfl⟩, 0, 0, rfl, rfl, rfl, rfl, rfl, rfl, rfl, (by omega), (by first | exact Or.inl rfl | exact Or.inr rfl), (fun h => by first | exact absurd h (by decide) | omega), (fun _ i h => absurd h (Nat.not_lt_zero i)), (fun h => by first | exact absurd h (by decide) | (rintro ⟨q1, q2, -⟩; omega))⟩
      · refine ⟨((25 - (0 : Nat)), 0, 0), [some (zvr (268)), some (zvi (b)), some (zvi ((1 : Int))), some (zvi ((0 : Nat)))], ⟨rfl, rfl, rfl, rfl, rfl⟩, 0, 1, rfl, rfl, rfl, rfl, rfl, rfl, rfl, (by omega), (by first | exact Or.inl rfl | exact Or.inr rfl), (fun h => by first | exact absurd h (by decide) | omega), (fun _ i h => absurd h (Nat.not_lt_zero i)), (fun h => by first | exact absurd h (by decide) | (rintro ⟨q1, q2, -⟩; omega))⟩
  · rintro nM lsM stM I1 L1 R1 S1 hz1 ⟨x, u, rfl, rfl, rfl, rfl, rfl, rfl, rfl, hx, hu0, hu1a, hu1, hu2⟩
    refine And.intro (zA_268 hS) (zrd (v := N) hN ?_)
    refine And.intro ⟨(by omega), (by omega)⟩ ⟨fun h35 => ?_, fun h35 => ?_⟩
    · refine And.intro (by omega) ?_
      refine hQ _ ?_
      · rcases hu0 with e | e
        · exact Or.inr ⟨e, hu2 e⟩
        · exact Or.inl ⟨e, (hu1a e).1, (hu1a e).2, fun i hi => hu1 e i (by omega)⟩
    · refine And.intro (by omega) ⟨fun h39 => ?_, fun h39 => ?_⟩
      · refine And.intro (by omega) ?_
        refine hQ _ ?_
        · rcases hu0 with e | e
          · exact Or.inr ⟨e, hu2 e⟩
          · exact Or.inl ⟨e, (hu1a e).1, (hu1a e).2, fun i hi => hu1 e i (by omega)⟩
      · refine And.intro (zA_268 hS) (zrdR (v := some 270) (zR_268_6 hR) ?_)
        refine And.intro (zA_268 hS) (zrdR (v := some 274) (zR_268_12 hR) ?_)
        refine And.intro (zP_274 hS (by omega) (by omega)) (fun v51 e51 r51 => ?_)
        have f51 : v51 = sF s b := (e51.trans (hMF b (by omega)))
        have f51b : v51 + sL s b ≤ 400 := (by have := (g4 b (by omega)).2.2; omega)
        refine And.intro (zP_270 hS (by omega) (by omega)) (fun v54 e54 r54 => ?_)
        have f54 : v54 = g (sF s b + x) := (e54.trans ((congrArg (I1 270) (by omega)).trans (hlg (sF s b + x) (by omega))))
        refine And.intro (zA_268 hS) (zrdR (v := some 269) (zR_268_4 hR) ?_)
        refine And.intro (zP_269 hS (by omega) (by omega)) (fun v60 e60 r60 => ?_)
        have f60 : v60 = f x := (e60.trans (hf x (by omega)))
        refine And.intro ⟨r54, r60⟩ ⟨fun h61 => ?_, fun h61 => ?_⟩
        · refine ⟨((25 - (x + 1)), 0, 0), zlt6 (by omega), [some (zvr (268)), some (zvi (b)), some (zvi ((0 : Int))), some (zvi ((x + 1)))], ⟨rfl, rfl, rfl, rfl, rfl⟩, (x + 1), 0, rfl, rfl, rfl, rfl, rfl, rfl, rfl, (by omega), (by first | exact Or.inl rfl | exact Or.inr rfl), (fun h => by first | exact absurd h (by decide) | exact hu1a (by omega)), ?_, ?_⟩
          · intro h i hi
            first
            | exact absurd h (by decide)
            | (by_cases e : i = x
               · subst e
                 omega
               · exact hu1 (by omega) i (by omega))
          · intro h
            first
            | exact absurd h (by decide)
            | (rintro ⟨q1, q2, q3⟩
               have q4 := q3 x (by omega)
               omega)
        · refine ⟨((25 - (x + 1)), 0, 0), zlt6 (by omega), [some (zvr (268)), some (zvi (b)), some (zvi ((1 : Int))), some (zvi ((x + 1)))], ⟨rfl, rfl, rfl, rfl, rfl⟩, (x + 1), 1, rfl, rfl, rfl, rfl, rfl, rfl, rfl, (by omega), (by first | exact Or.inl rfl | exact Or.inr rfl), (fun h => by first | exact absurd h (by decide) | exact hu1a (by omega)), ?_, ?_⟩
          · intro h i hi
            first
            | exact absurd h (by decide)
            | (by_cases e : i = x
               · subst e
                 omega
               · exact hu1 (by omega) i (by omega))
          · intro h
            first
            | exact absurd h (by decide)
            | (rintro ⟨q1, q2, q3⟩
               have q4 := q3 x (by omega)
               omega))
def T_B_blk : ZT := fun args I L R S Q => ∃ (g : Nat → Int) (m : Nat) (s : StS) (z : Nat) (f : Nat → Int) (N : Nat), args = [zvr 268] ∧ (zSh S) ∧ (zRs R) ∧ (zML g m s z 0 I) ∧ (I 268 3 = N) ∧ (∀ i : Nat, i < N → I 269 i = f i) ∧ (1 ≤ N ∧ N ≤ 24) ∧ (sC s (sV s) < 8) ∧ ((svR g s f N = -1 → sB s < 24 ∧ z + 2 + N ≤ 400) ∧ (svR g s f N ≠ -1 → z + 2 ≤ 400)) ∧ (∀ i : Nat, i < N → r32 (f i)) ∧ ∀ (v : Int) (I' : ZI), (zML (svG g s z f N) (m + 1) (stAct (svG g s z f N) z s) (z + stSz (svG g s z f N) z) 0 I') → (I' 268 3 = 0) → (∀ c j : Nat, ¬ c = 274 → ¬ c = 275 → ¬ c = 276 → ¬ c = 277 → ¬ c = 278 → ¬ c = 279 → ¬ (c = 268 ∧ j = 11) → ¬ (c = 268 ∧ j = 15) → ¬ (c = 268 ∧ j = 20) → ¬ (c = 268 ∧ j = 19) → ¬ (c = 268 ∧ j = 0) → ¬ c = 270 → ¬ (c = 268 ∧ j = 5) → ¬ (c = 268 ∧ j = 3) → I' c j = I c j) → Q (some (zvi (v))) I' L R S
theorem sn_B_blk : ZSnd 6 13 2 T_B_blk := ZSnd.loops (zT13_2 5) (by
  rintro args I L R S Q hz ⟨g, m, s, z, f, N, rfl, hS, hR, hML, hN, hf, hN24, hc8, hfit, hrf, hQ⟩
  obtain ⟨hzl, hcr, hlg, ⟨hc1, hsm, hLg⟩, h6⟩ := id hML
  have hz40 := hLg.2.2.1
  have hGm := stN_G hLg.1
  have hG9 : stG (stN g m).1 s := by rw [hsm]; exact hGm.1
  have he9 : (stN g m).1 = z := h6 rfl
  have hrb := svR_b g s f N
  have hb24 := hG9.1
  have hv12 := hG9.2.1
  refine ⟨[12, 136], fun nM tM lsM stM I1 L1 R1 S1 => match tM with
      | 12 => ∃ (b : Nat), nM = (1, (25 - b), 0) ∧ lsM = [some (zvr (268)), some (zvi (b)), none, none, none] ∧ stM = [] ∧ L1 = L ∧ R1 = R ∧ S1 = S ∧ (b ≤ sB s) ∧ (∀ k : Nat, k < b → ¬ stSm g s f N k) ∧ (zMS s I1) ∧ (zMF s I1) ∧ (∀ j : Nat, j < 400 → I1 270 j = g j) ∧ (I1 268 3 = N) ∧ (I1 268 5 = z) ∧ (∀ i : Nat, i < N → I1 269 i = f i) ∧ (∀ c j : Nat, ¬ c = 274 → ¬ c = 275 → ¬ c = 276 → ¬ c = 277 → ¬ c = 278 → ¬ c = 279 → ¬ (c = 268 ∧ j = 11) → ¬ (c = 268 ∧ j = 15) → ¬ (c = 268 ∧ j = 20) → ¬ (c = 268 ∧ j = 19) → ¬ (c = 268 ∧ j = 0) → I1 c j = I c j)
      | 136 => ∃ (o : Nat) (u : Int) (x : Nat), nM = (0, (25 - x), 0) ∧ lsM = [some (zvr (268)), some (zvi (o)), some (zvi (u)), none, some (zvi (x))] ∧ stM = [] ∧ L1 = L ∧ R1 = R ∧ S1 = S ∧ (u = 0 ∨ u = 1) ∧ (x ≤ N) ∧ (u = 1 → x = 0 ∧ svR g s f N = o ∧ z + 2 ≤ 400) ∧ (u = 0 → svR g s f N = -1 ∧ sB s ≤ 23 ∧ z + 2 + N ≤ 400) ∧ (I1 268 5 = z + 2 + x) ∧ (I1 268 3 = N) ∧ (u = 1 → I1 270 z = 2 ∧ I1 270 (z + 1) = o) ∧ (u = 0 → I1 270 z = 1) ∧ (u = 0 → I1 270 (z + 1) = N) ∧ (∀ j : Nat, j < x → I1 270 (z + 2 + j) = f j) ∧ (∀ j : Nat, j < z → I1 270 j = g j) ∧ (∀ j : Nat, z + 2 + x ≤ j → I1 270 j = I 270 j) ∧ (∀ c j : Nat, ¬ c = 274 → ¬ c = 275 → ¬ c = 276 → ¬ c = 277 → ¬ c = 278 → ¬ c = 279 → ¬ (c = 268 ∧ j = 11) → ¬ (c = 268 ∧ j = 15) → ¬ (c = 268 ∧ j = 20) → ¬ (c = 268 ∧ j = 19) → ¬ (c = 268 ∧ j = 0) → ¬ c = 270 → ¬ (c = 268 ∧ j = 5) → I1 c j = I c j)
      | _ => False, rfl, ?_, ⟨?_, ?_, True.intro⟩⟩
  · refine And.intro (zA_268 hS) (Exists.intro _ (And.intro (zinl_ok (zT13_8 4)) (And.intro rfl ?_)))
    refine And.intro (zA_268 hS) (zrd (v := 0) hcr ?_)
    refine And.intro (zRb rfl) (zbt rfl ?_)
    refine And.intro (zA_268 hS) ⟨_, (zWi (zRb rfl)), ?_⟩
    refine And.intro (zA_268 hS) (zrd (v := 0) hcr ?_)
    refine And.intro (zRb rfl) (zbf rfl ?_)
    refine And.intro (zA_268 hS) ⟨_, sn_B_walk.up (by decide), ?_⟩
    refine ⟨g, m, s, z, rfl, hS, hR, hzl, (by first | exact hlg | exact (fun j h1 => (zxu (by omega) rfl).trans (hlg j h1)) | (clear hQ; grind [xu])), hsm, hLg, ?_⟩
    intro I24_2o p24_2hST2 p24_2bhMF2 p24_2bbhe2 p24_2bbbhG2 p24_2bbbbfr
    refine And.intro (zA_268 hS) (zrd (v := 0) ((p24_2bbbbfr 268 2 (by omega) (by omega) (by omega) (by omega) (by omega) (by omega) (by omega) (by omega) (by omega) (by omega)).trans hcr) ?_)
    refine And.intro (zRb rfl) (zbf rfl ?_)
    refine And.intro (Or.inr rfl) ?_
    refine And.intro (zRb rfl) (zbt rfl ?_)
    refine ⟨(1, (25 - (0 : Nat)), 0), [some (zvr (268)), some (zvi ((0 : Nat))), none, none, none], ⟨rfl, rfl, rfl⟩, 0, rfl, rfl, rfl, rfl, rfl, rfl, (by omega), (fun k h => absurd h (Nat.not_lt_zero k)), (zMS_fr p24_2hST2 (fun c j h => rfl)), (zMF_fr p24_2bhMF2 (fun c j h => rfl)), (fun j hj => ((p24_2bbbbfr 270 _ (by omega) (by omega) (by omega) (by omega) (by omega) (by omega) (by omega) (by omega) (by omega) (by omega)).trans (zxcj (by omega) rfl)).trans (hlg j hj)), ((p24_2bbbbfr 268 3 (by omega) (by omega) (by omega) (by omega) (by omega) (by omega) (by omega) (by omega) (by omega) (by omega)).trans hN), ((p24_2bbbbfr 268 5 (by omega) (by omega) (by omega) (by omega) (by omega) (by omega) (by omega) (by omega) (by omega) (by omega)).trans hzl), (fun i hi => ((p24_2bbbbfr 269 _ (by omega) (by omega) (by omega) (by omega) (by omega) (by omega) (by omega) (by omega) (by omega) (by omega)).trans (zxcj (by omega) rfl)).trans (hf i hi)), (fun c j h0 h1 h2 h3 h4 h5 h6 h7 h8 h9 h10 => ((p24_2bbbbfr c j (by omega) (by omega) (by omega) (by omega) (by omega) (by omega) (by omega) (by omega) (by omega) (by omega)).trans (zxcj h10 rfl)))⟩
  · rintro nM lsM stM I1 L1 R1 S1 hz1 ⟨b, rfl, rfl, rfl, rfl, rfl, rfl, hb, hno, hST, hMF, hlg9, hN9, hz9, hf9, fr⟩
    refine And.intro (zA_268 hS) (fun v14 e14 r14 => ?_)
    have f14 : v14 = sB s := (e14.trans hST.1)
    refine And.intro ⟨(by omega), r14⟩ ⟨fun h17 => ?_, fun h17 => ?_⟩
    · have t17 : svR g s f N = -1 ∧ b = sB s := ⟨zlow_no (P := stSm g s f N) (fun k hk => hno k (by omega)), by omega⟩
      have t17b : sB s ≤ 23 ∧ z + 2 + N ≤ 400 := (by have := hfit.1 (by omega); omega)
      refine And.intro (zA_268 hS) (fun v36 e36 r36 => ?_)
      have f36 : v36 = sB s := (e36.trans hST.1)
      refine And.intro ⟨(by omega), r36⟩ ⟨fun h39 => ?_, (fun h39 => False.elim (by omega))⟩
      refine And.intro (zRb rfl) (zbt rfl ?_)
      refine And.intro (zA_268 hS) (zrd (v := N) hN9 ?_)
      refine And.intro (zA_268 hS) (zrdR (v := some 277) (zR_268_16 hR) ?_)
      refine And.intro (zA_268 hS) (fun v68 e68 r68 => ?_)
      have f68 : v68 = sV s := (e68.trans hST.2.1)
      refine And.intro (zP_277 hS (by omega) (by omega)) (fun v71 e71 r71 => ?_)
      have f71 : v71 = sC s (sV s) := (e71.trans ((congrArg (I1 277) (by omega)).trans (hST.2.2.2 (sV s) (Nat.le_refl _)).1))
      have f71b : v71 ≤ 7 := (by omega)
      refine And.intro ⟨r71, (zRb rfl)⟩ ⟨(fun h74 => False.elim (by omega)), fun h74 => ?_⟩
      refine And.intro (zRb rfl) (zbf rfl ?_)
      refine And.intro (zA_268 hS) (fun v82 e82 r82 => ?_)
      have f82 : v82 = sB s := (e82.trans hST.1)
      refine And.intro ⟨r82, (zRb rfl)⟩ ⟨(fun h87 => False.elim (by omega)), fun h87 => ?_⟩
      refine And.intro (zA_268 hS) (zrd (v := z) hz9 ?_)
      refine And.intro ⟨(by omega), (zRb rfl)⟩ ⟨fun h99 => ?_, (fun h99 => False.elim (by omega))⟩
      refine And.intro (zRb rfl) (zbt rfl ?_)
      refine And.intro (zA_268 hS) (Exists.intro _ (And.intro (zinl_ok (zT13_18 4)) (And.intro rfl ?_)))
      refine And.intro (zA_268 hS) (zrdR (v := some 270) (zR_268_6 hR) ?_)
      refine And.intro (zA_268 hS) (zrd (v := z) hz9 ?_)
      refine And.intro ⟨(zx0 rfl), (zP_270 hS (by omega) (by omega))⟩ ⟨_, (zWi (zRb rfl)), ?_⟩
      refine And.intro (zA_268 hS) (zrd (v := z) hz9 ?_)
      refine And.intro (zA_268 hS) ⟨_, (zWi (by omega)), ?_⟩
      refine And.intro (zRb rfl) (zbt rfl ?_)
      refine And.intro (zA_268 hS) (zrd (v := N) hN9 ?_)
      refine And.intro (zA_268 hS) (Exists.intro _ (And.intro (zinl_ok (zT13_18 4)) (And.intro rfl ?_)))
      refine And.intro (zA_268 hS) (zrdR (v := some 270) (zR_268_6 hR) ?_)
      refine And.intro (zA_268 hS) (zrd (v := (z + 1)) rfl ?_)
      refine And.intro ⟨(zx0 rfl), (zP_270 hS (by omega) (by omega))⟩ ⟨_, (zWi (by omega)), ?_⟩
      refine And.intro (zA_268 hS) (zrd (v := (z + 1)) rfl ?_)
      refine And.intro (zA_268 hS) ⟨_, (zWi (by omega)), ?_⟩
      refine ⟨(0, (25 - (0 : Nat)), 0), zlt6 (by omega), [some (zvr (268)), some (zvi (b)), some (zvi ((0 : Int))), none, some (zvi ((0 : Nat)))], ⟨rfl, rfl, rfl, rfl, rfl⟩, b, 0, 0, rfl, rfl, rfl, rfl, rfl, rfl, (by first | exact Or.inl rfl | exact Or.inr rfl), (by omega), (fun h => by first | exact absurd h (by decide) | exact ⟨rfl, by omega, by omega⟩), (fun h => by first | exact absurd h (by decide) | (have := hfit.1 (by omega); omega)), (Eq.trans (b := (((z + 1) + 1) : Int)) rfl (by omega)), hN9, ?_, ?_, ?_, (fun j h => absurd h (Nat.not_lt_zero j)), (fun j hj => zxu (by decide) (zxs (by omega) (zxu (by decide) (zxs (by omega) (hlg9 j (by omega)))))), (fun j hj => zxu (by decide) (zxs (by omega) (zxu (by decide) (zxs (by omega) (fr 270 j (by omega) (by omega) (by omega) (by omega) (by omega) (by omega) (by omega) (by omega) (by omega) (by omega) (by omega)))))), (fun c j h0 h1 h2 h3 h4 h5 h6 h7 h8 h9 h10 h11 h12 => (zxcj h12 (zxu h11 (zxcj h12 (zxu h11 ((fr c j (by omega) (by omega) (by omega) (by omega) (by omega) (by omega) (by omega) (by omega) (by omega) (by omega) (by omega)).trans rfl))))))⟩
      · intro h
        first
        | exact absurd h (by decide)
        | (refine ⟨zxu (by decide) (zxs (by omega) (zxu (by decide) zxe)), ?_⟩
           rw [show z + 1 = ((z : Int) + 1).toNat by omega]
           exact zxu (by decide) zxe)
      · intro h
        first
        | exact absurd h (by decide)
        | exact zxu (by decide) (zxs (by omega) (zxu (by decide) zxe))
      · intro h
        first
        | exact absurd h (by decide)
        | (rw [show z + 1 = ((z : Int) + 1).toNat by omega]
           exact zxu (by decide) zxe)
    · refine And.intro (zA_268 hS) ⟨_, sn_B_food.up (by decide), ?_⟩
      refine ⟨b, (stN g m).1, g, s, f, N, rfl, hS, hR, hG9, hGm.2, (by first | exact (zMS_fr hST (fun c j h => rfl)) | (clear hQ; grind [xu])), (by first | exact (zMF_fr hMF (fun c j h => rfl)) | (clear hQ; grind [xu])), hlg9, hN9, hf9, (by omega), (by omega), ?_⟩
      intro v22o p22hv
      refine And.intro (by omega) ⟨fun h25 => ?_, fun h25 => ?_⟩
      · have t25 : svR g s f N = b := (by rcases p22hv with w | w; exact zlow_at (P := stSm g s f N) w.2 hno (by omega); exfalso; omega)
        have t25b : z + 2 ≤ 400 := (hfit.2 (by omega))
        refine And.intro (zA_268 hS) (fun v36 e36 r36 => ?_)
        have f36 : v36 = sB s := (e36.trans hST.1)
        refine And.intro ⟨(by omega), r36⟩ ⟨(fun h39 => False.elim (by omega)), fun h39 => ?_⟩
        refine And.intro (zRb rfl) (zbf rfl ?_)
        refine And.intro (zA_268 hS) (zrdR (v := some 277) (zR_268_16 hR) ?_)
        refine And.intro (zA_268 hS) (fun v68 e68 r68 => ?_)
        have f68 : v68 = sV s := (e68.trans hST.2.1)
        refine And.intro (zP_277 hS (by omega) (by omega)) (fun v71 e71 r71 => ?_)
        have f71 : v71 = sC s (sV s) := (e71.trans ((congrArg (I1 277) (by omega)).trans (hST.2.2.2 (sV s) (Nat.le_refl _)).1))
        have f71b : v71 ≤ 7 := (by omega)
        refine And.intro ⟨r71, (zRb rfl)⟩ ⟨(fun h74 => False.elim (by omega)), fun h74 => ?_⟩
        refine And.intro (zRb rfl) (zbt rfl ?_)
        refine And.intro (zA_268 hS) (zrd (v := z) hz9 ?_)
        refine And.intro ⟨(by omega), (zRb rfl)⟩ ⟨fun h99 => ?_, (fun h99 => False.elim (by omega))⟩
        refine And.intro (zRb rfl) (zbf rfl ?_)
        refine And.intro (zA_268 hS) (Exists.intro _ (And.intro (zinl_ok (zT13_18 4)) (And.intro rfl ?_)))
        refine And.intro (zA_268 hS) (zrdR (v := some 270) (zR_268_6 hR) ?_)
        refine And.intro (zA_268 hS) (zrd (v := z) hz9 ?_)
        refine And.intro ⟨(zx0 rfl), (zP_270 hS (by omega) (by omega))⟩ ⟨_, (zWi (zRb rfl)), ?_⟩
        refine And.intro (zA_268 hS) (zrd (v := z) hz9 ?_)
        refine And.intro (zA_268 hS) ⟨_, (zWi (by omega)), ?_⟩
        refine And.intro (zRb rfl) (zbf rfl ?_)
        refine And.intro (zA_268 hS) (Exists.intro _ (And.intro (zinl_ok (zT13_18 4)) (And.intro rfl ?_)))
        refine And.intro (zA_268 hS) (zrdR (v := some 270) (zR_268_6 hR) ?_)
        refine And.intro (zA_268 hS) (zrd (v := (z + 1)) rfl ?_)
        refine And.intro ⟨(zx0 rfl), (zP_270 hS (by omega) (by omega))⟩ ⟨_, (zWi (by omega)), ?_⟩
        refine And.intro (zA_268 hS) (zrd (v := (z + 1)) rfl ?_)
        refine And.intro (zA_268 hS) ⟨_, (zWi (by omega)), ?_⟩
        refine ⟨(0, (25 - (0 : Nat)), 0), zlt6 (by omega), [some (zvr (268)), some (zvi (b)), some (zvi ((1 : Int))), none, some (zvi ((0 : Nat)))], ⟨rfl, rfl, rfl, rfl, rfl⟩, b, 1, 0, rfl, rfl, rfl, rfl, rfl, rfl, (by first | exact Or.inl rfl | exact Or.inr rfl), (by omega), (fun h => by first | exact absurd h (by decide) | exact ⟨rfl, by omega, by omega⟩), (fun h => by first | exact absurd h (by decide) | (have := hfit.1 (by omega); omega)), (Eq.trans (b := (((z + 1) + 1) : Int)) rfl (by omega)), hN9, ?_, ?_, ?_, (fun j h => absurd h (Nat.not_lt_zero j)), (fun j hj => zxu (by decide) (zxs (by omega) (zxu (by decide) (zxs (by omega) (hlg9 j (by omega)))))), (fun j hj => zxu (by decide) (zxs (by omega) (zxu (by decide) (zxs (by omega) (fr 270 j (by omega) (by omega) (by omega) (by omega) (by omega) (by omega) (by omega) (by omega) (by omega) (by omega) (by omega)))))), (fun c j h0 h1 h2 h3 h4 h5 h6 h7 h8 h9 h10 h11 h12 => (zxcj h12 (zxu h11 (zxcj h12 (zxu h11 ((fr c j (by omega) (by omega) (by omega) (by omega) (by omega) (by omega) (by omega) (by omega) (by omega) (by omega) (by omega)).trans rfl))))))⟩
        · intro h
          first
          | exact absurd h (by decide)
          | (refine ⟨zxu (by decide) (zxs (by omega) (zxu (by decide) zxe)), ?_⟩
             rw [show z + 1 = ((z : Int) + 1).toNat by omega]
             exact zxu (by decide) zxe)
        · intro h
          first
          | exact absurd h (by decide)
          | exact zxu (by decide) (zxs (by omega) (zxu (by decide) zxe))
        · intro h
          first
          | exact absurd h (by decide)
          | (rw [show z + 1 = ((z : Int) + 1).toNat by omega]
             exact zxu (by decide) zxe)
      · refine ⟨(1, (25 - (b + 1)), 0), zlt6 (by omega), [some (zvr (268)), some (zvi ((b + 1))), none, none, none], ⟨rfl, rfl, rfl⟩, (b + 1), rfl, rfl, rfl, rfl, rfl, rfl, (by omega), ?_, (by first | exact (zMS_fr hST (fun c j h => rfl)) | (clear hQ; grind [xu])), (by first | exact (zMF_fr hMF (fun c j h => rfl)) | (clear hQ; grind [xu])), (by first | exact hlg | exact (fun j h1 => ((fr 270 _ (by omega) (by omega) (by omega) (by omega) (by omega) (by omega) (by omega) (by omega) (by omega) (by omega) (by omega)).trans rfl).trans (hlg j h1)) | exact hlg9 | exact (fun j h1 => rfl.trans (hlg9 j h1)) | (clear hQ; grind [xu])), hN9, hz9, (by first | exact hf | exact (fun i h1 => ((fr 269 _ (by omega) (by omega) (by omega) (by omega) (by omega) (by omega) (by omega) (by omega) (by omega) (by omega) (by omega)).trans rfl).trans (hf i h1)) | exact hf9 | exact (fun i h1 => rfl.trans (hf9 i h1)) | (clear hQ; grind [xu])), (fun c j h0 h1 h2 h3 h4 h5 h6 h7 h8 h9 h10 => ((fr c j (by omega) (by omega) (by omega) (by omega) (by omega) (by omega) (by omega) (by omega) (by omega) (by omega) (by omega)).trans rfl))⟩
        · intro k hk
          by_cases e : k = b
          · rw [e]
            rcases p22hv with w | w
            · exfalso; omega
            · exact w.2
          · exact hno k (by omega)
  · rintro nM lsM stM I1 L1 R1 S1 hz1 ⟨o, u, x, rfl, rfl, rfl, rfl, rfl, rfl, hu0, hx, hxu, hxn, hz9, hN9, hk1a, hk1b, hk2b, hby, hlo, hhi, fr⟩
    refine And.intro (zA_268 hS) (zrd (v := N) hN9 ?_)
    refine And.intro ⟨(by omega), (by omega)⟩ ⟨fun h142 => ?_, fun h142 => ?_⟩
    · refine And.intro (zA_268 hS) ⟨_, (zWi (zRb rfl)), ?_⟩
      refine hQ _ _ ?_ rfl (fun c j h0 h1 h2 h3 h4 h5 h6 h7 h8 h9 h10 h11 h12 h13 => (zxcj h13 ((fr c j (by omega) (by omega) (by omega) (by omega) (by omega) (by omega) (by omega) (by omega) (by omega) (by omega) (by omega) (by omega) (by omega)).trans rfl)))
      · rcases hu0 with hu | hu
        · have q := hxn hu
          have e : svG g s z f N = lgN g z N f := if_pos q.1
          rw [e]
          have e1 : lgN g z N f z = 1 := lgN_at
          have e2 : lgN g z N f (z + 1) = N := lgN_at1
          have eS : stSz (lgN g z N f) z = 2 + N := by rw [show stSz (lgN g z N f) z = 2 + (lgN g z N f (z + 1)).toNat from if_pos e1, e2]; omega
          obtain rfl : x = N := by omega
          refine zML_add hML lgN_lo ⟨by rw [eS]; omega, Or.inl ⟨e1, by omega, by omega, by omega, hc8⟩⟩ rfl (hz9.trans (by rw [eS]; omega)) ((zxcj (by omega) (fr 268 2 (by omega) (by omega) (by omega) (by omega) (by omega) (by omega) (by omega) (by omega) (by omega) (by omega) (by omega) (by omega) (by omega)))) (fun j hj => ?_)
          refine (show _ = I1 270 j from rfl).trans ?_
          unfold lgN
          by_cases e : j = z
          · rw [if_pos e, e]; exact hk1b hu
          · rw [if_neg e]
            by_cases e2 : j = z + 1
            · rw [if_pos e2, e2]; exact hk2b hu
            · rw [if_neg e2]
              by_cases e3 : z + 2 ≤ j ∧ j < z + 2 + x
              · rw [if_pos e3, ← hby (j - z - 2) (by omega)]
                congr 1
                omega
              · rw [if_neg e3]
                by_cases e4 : j < z
                · exact hlo j e4
                · exact (hhi j (by omega)).trans (hlg j hj)
        · have q := hxu hu
          have e : svG g s z f N = lg2 g z 2 o := by
            unfold svG
            rw [if_neg (by omega), q.2.1]
          rw [e]
          have e1 : lg2 g z 2 o z = 2 := lg2_at
          have e2 : lg2 g z 2 o (z + 1) = o := lg2_at1 (by omega)
          have eS : stSz (lg2 g z 2 o) z = 2 := stSz_2 (Or.inl e1)
          refine zML_add hML lg2_lo ⟨by rw [eS]; omega, Or.inr (Or.inl ⟨e1, by omega, by omega, hc8⟩)⟩ rfl (hz9.trans (by rw [eS]; omega)) ((zxcj (by omega) (fr 268 2 (by omega) (by omega) (by omega) (by omega) (by omega) (by omega) (by omega) (by omega) (by omega) (by omega) (by omega) (by omega) (by omega)))) (fun j hj => ?_)
          refine (show _ = I1 270 j from rfl).trans ?_
          unfold lg2
          by_cases e : j = z
          · rw [if_pos e, e]; exact (hk1a hu).1
          · rw [if_neg e]
            by_cases e3 : j = z + 1 ∧ (o : Int) ≠ -1
            · rw [if_pos e3, e3.1]; exact (hk1a hu).2
            · rw [if_neg e3]
              by_cases e4 : j < z
              · exact hlo j e4
              · exact (hhi j (by omega)).trans (hlg j hj)
    · refine And.intro (by omega) ⟨fun h146 => ?_, fun h146 => ?_⟩
      · refine And.intro (zA_268 hS) ⟨_, (zWi (zRb rfl)), ?_⟩
        refine hQ _ _ ?_ rfl (fun c j h0 h1 h2 h3 h4 h5 h6 h7 h8 h9 h10 h11 h12 h13 => (zxcj h13 ((fr c j (by omega) (by omega) (by omega) (by omega) (by omega) (by omega) (by omega) (by omega) (by omega) (by omega) (by omega) (by omega) (by omega)).trans rfl)))
        · rcases hu0 with hu | hu
          · have q := hxn hu
            have e : svG g s z f N = lgN g z N f := if_pos q.1
            rw [e]
            have e1 : lgN g z N f z = 1 := lgN_at
            have e2 : lgN g z N f (z + 1) = N := lgN_at1
            have eS : stSz (lgN g z N f) z = 2 + N := by rw [show stSz (lgN g z N f) z = 2 + (lgN g z N f (z + 1)).toNat from if_pos e1, e2]; omega
            obtain rfl : x = N := by omega
            refine zML_add hML lgN_lo ⟨by rw [eS]; omega, Or.inl ⟨e1, by omega, by omega, by omega, hc8⟩⟩ rfl (hz9.trans (by rw [eS]; omega)) ((zxcj (by omega) (fr 268 2 (by omega) (by omega) (by omega) (by omega) (by omega) (by omega) (by omega) (by omega) (by omega) (by omega) (by omega) (by omega) (by omega)))) (fun j hj => ?_)
            refine (show _ = I1 270 j from rfl).trans ?_
            unfold lgN
            by_cases e : j = z
            · rw [if_pos e, e]; exact hk1b hu
            · rw [if_neg e]
              by_cases e2 : j = z + 1
              · rw [if_pos e2, e2]; exact hk2b hu
              · rw [if_neg e2]
                by_cases e3 : z + 2 ≤ j ∧ j < z + 2 + x
                · rw [if_pos e3, ← hby (j - z - 2) (by omega)]
                  congr 1
                  omega
                · rw [if_neg e3]
                  by_cases e4 : j < z
                  · exact hlo j e4
                  · exact (hhi j (by omega)).trans (hlg j hj)
          · have q := hxu hu
            have e : svG g s z f N = lg2 g z 2 o := by
              unfold svG
              rw [if_neg (by omega), q.2.1]
            rw [e]
            have e1 : lg2 g z 2 o z = 2 := lg2_at
            have e2 : lg2 g z 2 o (z + 1) = o := lg2_at1 (by omega)
            have eS : stSz (lg2 g z 2 o) z = 2 := stSz_2 (Or.inl e1)
            refine zML_add hML lg2_lo ⟨by rw [eS]; omega, Or.inr (Or.inl ⟨e1, by omega, by omega, hc8⟩)⟩ rfl (hz9.trans (by rw [eS]; omega)) ((zxcj (by omega) (fr 268 2 (by omega) (by omega) (by omega) (by omega) (by omega) (by omega) (by omega) (by omega) (by omega) (by omega) (by omega) (by omega) (by omega)))) (fun j hj => ?_)
            refine (show _ = I1 270 j from rfl).trans ?_
            unfold lg2
            by_cases e : j = z
            · rw [if_pos e, e]; exact (hk1a hu).1
            · rw [if_neg e]
              by_cases e3 : j = z + 1 ∧ (o : Int) ≠ -1
              · rw [if_pos e3, e3.1]; exact (hk1a hu).2
              · rw [if_neg e3]
                by_cases e4 : j < z
                · exact hlo j e4
                · exact (hhi j (by omega)).trans (hlg j hj)
      · refine And.intro (zA_268 hS) (zrdR (v := some 269) (zR_268_4 hR) ?_)
        refine And.intro (zP_269 hS (by omega) (by omega)) (fun v156 e156 r156 => ?_)
        have f156 : v156 = f x := (e156.trans ((fr 269 _ (by omega) (by omega) (by omega) (by omega) (by omega) (by omega) (by omega) (by omega) (by omega) (by omega) (by omega) (by omega) (by omega)).trans (hf x (by omega))))
        refine And.intro (zA_268 hS) (Exists.intro _ (And.intro (zinl_ok (zT13_18 4)) (And.intro rfl ?_)))
        refine And.intro (zA_268 hS) (zrdR (v := some 270) (zR_268_6 hR) ?_)
        refine And.intro (zA_268 hS) (zrd (v := (z + 2 + x)) hz9 ?_)
        refine And.intro ⟨(zx0 rfl), (zP_270 hS (by omega) (by omega))⟩ ⟨_, (zWi r156), ?_⟩
        refine And.intro (zA_268 hS) (zrd (v := (z + 2 + x)) hz9 ?_)
        refine And.intro (zA_268 hS) ⟨_, (zWi (by omega)), ?_⟩
        refine ⟨(0, (25 - (x + 1)), 0), zlt6 (by omega), [some (zvr (268)), some (zvi (o)), some (zvi (u)), none, some (zvi ((x + 1)))], ⟨rfl, rfl, rfl, rfl, rfl⟩, o, u, (x + 1), rfl, rfl, rfl, rfl, rfl, rfl, hu0, (by omega), (fun h => by omega), hxn, (Eq.trans (b := (((z + 2 + x) + 1) : Int)) rfl (by omega)), hN9, (fun h => by omega), (fun h => zxu (by decide) (zxs (by omega) (hk1b h))), (fun h => zxu (by decide) (zxs (by omega) (hk2b h))), ?_, (fun j hj => zxu (by decide) (zxs (by omega) (hlo j hj))), (fun j hj => zxu (by decide) (zxs (by omega) (hhi j (by omega)))), (fun c j h0 h1 h2 h3 h4 h5 h6 h7 h8 h9 h10 h11 h12 => (zxcj h12 (zxu h11 ((fr c j (by omega) (by omega) (by omega) (by omega) (by omega) (by omega) (by omega) (by omega) (by omega) (by omega) (by omega) (by omega) (by omega)).trans rfl))))⟩
        · intro j hj
          refine zxu (by decide) ?_
          by_cases h : j = x
          · subst h
            rw [show z + 2 + j = ((z : Int) + 2 + j).toNat by omega]
            exact zxe.trans f156
          · exact zxs (by omega) (hby j (by omega)))
