/-! rel4 -/
def T_A_isCheck : ZT := fun args I L R S Q => ∃ (bc : Nat) (cn : Nat) (b : Nat → Int), args = [zvr 154] ∧ (zSh S) ∧ (zRs R) ∧ (I 154 0 = cn) ∧ (cn ≤ 10) ∧ (I 154 13 = bc) ∧ (5 ≤ bc ∧ bc ≤ 201) ∧ (∀ i : Nat, i < bc → I 164 i = b i ∧ 0 ≤ b i ∧ b i ≤ 255) ∧ ∀ (v : Int), ((v = 1 ∧ ckF cn b bc) ∨ (v = 0 ∧ ¬ ckF cn b bc)) → Q (some (zvi (v))) I L R S
theorem sn_A_isCheck : ZSnd 2 5 9 T_A_isCheck := ZSnd.loops (zT5_9 1) (by
  rintro args I L R S Q hz ⟨bc, cn, b, rfl, hS, hR, hc, hcn, hbc, h0, hb, hQ⟩
  have b3 := hb 3 (by omega)
  have b0 := hb 0 (by omega)
  refine ⟨[73], fun nM tM lsM stM I1 L1 R1 S1 => match tM with
      | 73 => ∃ (u : Int) (k : Nat), nM = ((300 - (5 + b 3 + 33 * k)).toNat, 0, 0) ∧ lsM = [some (zvr (154)), none, some (zvi (u)), some (zvi (5 + b 3 + 33 * k))] ∧ stM = [] ∧ I1 = I ∧ L1 = L ∧ R1 = R ∧ S1 = S ∧ (k ≤ 7) ∧ (u = 0 ∨ u = 1) ∧ (b 0 < cn ∧ b 3 ≤ 64 ∧ 4 + b 3 < bc) ∧ (u = 1 → (bc : Int) = 5 + b 3 + 33 * b (4 + (b 3).toNat)) ∧ (u = 1 → ∀ s : Nat, s < k → b (5 + (b 3).toNat + 33 * s) ≤ 1) ∧ (u = 0 → ¬ ckF cn b bc)
      | _ => False, rfl, ?_, ⟨?_, True.intro⟩⟩
  · refine And.intro (zA_154 hS) (zrdR (v := some 164) (zR_154_12 hR) ?_)
    refine And.intro (zP_164 hS (by omega) (by omega)) (fun v6 e6 r6 => ?_)
    have f6 : v6 = b 3 := (e6.trans (hb 3 (by omega)).1)
    refine And.intro (zA_154 hS) (zrdR (v := some 164) (zR_154_12 hR) ?_)
    refine And.intro (zP_164 hS (by omega) (by omega)) (fun v15 e15 r15 => ?_)
    have f15 : v15 = b 0 := (e15.trans (hb 0 (by omega)).1)
    refine And.intro (zA_154 hS) (Exists.intro _ (And.intro (zinl_ok (zT5_11 0)) (And.intro rfl ?_)))
    refine And.intro r15 ⟨fun h1_16 => ?_, fun h1_16 => ?_⟩
    · refine And.intro (Or.inl rfl) ?_
      refine And.intro (zRb rfl) (zbt rfl ?_)
      refine And.intro (Or.inl rfl) ?_
      refine hQ _ ?_
      · first
        | (refine Or.inr ⟨rfl, ?_⟩
           rintro ⟨q1, q2, q3, -⟩
           omega)
        | (refine Or.inr ⟨rfl, ?_⟩
           exact h4 (by omega))
        | (rcases hu0 with e | e
           · exact Or.inr ⟨e, h4 e⟩
           · refine Or.inl ⟨e, h1.1, h1.2.1, h1.2.2, h2 e, fun s hs => h3 e s ?_⟩
             have := h2 e
             omega)
    · refine And.intro (zA_154 hS) (zrd (v := cn) hc ?_)
      refine And.intro ⟨r15, (by omega)⟩ ⟨fun h9_16 => ?_, fun h9_16 => ?_⟩
      · refine And.intro (Or.inl rfl) ?_
        refine And.intro (zRb rfl) (zbt rfl ?_)
        refine And.intro (Or.inl rfl) ?_
        refine hQ _ ?_
        · first
          | (refine Or.inr ⟨rfl, ?_⟩
             rintro ⟨q1, q2, q3, -⟩
             omega)
          | (refine Or.inr ⟨rfl, ?_⟩
             exact h4 (by omega))
          | (rcases hu0 with e | e
             · exact Or.inr ⟨e, h4 e⟩
             · refine Or.inl ⟨e, h1.1, h1.2.1, h1.2.2, h2 e, fun s hs => h3 e s ?_⟩
               have := h2 e
               omega)
      · refine And.intro (Or.inr rfl) ?_
        refine And.intro (zRb rfl) (zbf rfl ?_)
        refine And.intro (zA_154 hS) (zrdR (v := some 164) (zR_154_12 hR) ?_)
        refine And.intro (zP_164 hS (by omega) (by omega)) (fun v27 e27 r27 => ?_)
        have f27 : v27 = b 3 := (e27.trans (hb 3 (by omega)).1)
        refine And.intro ⟨r27, (zRb rfl)⟩ ⟨fun h30 => ?_, fun h30 => ?_⟩
        · refine And.intro (Or.inl rfl) ?_
          refine hQ _ ?_
          · first
            | (refine Or.inr ⟨rfl, ?_⟩
               rintro ⟨q1, q2, q3, -⟩
               omega)
            | (refine Or.inr ⟨rfl, ?_⟩
               exact h4 (by omega))
            | (rcases hu0 with e | e
               · exact Or.inr ⟨e, h4 e⟩
               · refine Or.inl ⟨e, h1.1, h1.2.1, h1.2.2, h2 e, fun s hs => h3 e s ?_⟩
                 have := h2 e
                 omega)
        · refine And.intro (zA_154 hS) (zrd (v := bc) hbc ?_)
          refine And.intro ⟨(by omega), (by omega)⟩ ⟨fun h38 => ?_, fun h38 => ?_⟩
          · refine And.intro (zA_154 hS) (zrd (v := bc) hbc ?_)
            refine And.intro (zA_154 hS) (zrdR (v := some 164) (zR_154_12 hR) ?_)
            refine And.intro (zP_164 hS (by omega) (by omega)) (fun v55 e55 r55 => ?_)
            have f55 : v55 = b (4 + (b 3).toNat) := (by rw [e55, (hb _ (by omega)).1]; congr 1; omega)
            have f55b : 0 ≤ v55 ∧ v55 ≤ 255 := (by rw [f55]; exact (hb _ (by omega)).2)
            refine And.intro ⟨(by omega), (by omega)⟩ ⟨fun h60 => ?_, fun h60 => ?_⟩
            · refine ⟨((300 - (5 + b 3 + 33 * (0 : Nat))).toNat, 0, 0), [some (zvr (154)), none, some (zvi ((0 : Int))), some (zvi (5 + b 3 + 33 * (0 : Nat)))], ⟨rfl, rfl, (congrArg (fun z => some (zvi z)) (by omega)), rfl⟩, 0, 0, rfl, rfl, rfl, rfl, rfl, rfl, rfl, (by omega), (by first | exact Or.inl rfl | exact Or.inr rfl), (by omega), (by intro h; omega), (fun _ s h => absurd h (Nat.not_lt_zero s)), (by intro h h9; have := h9.2.2.2.1; omega)⟩
            · refine ⟨((300 - (5 + b 3 + 33 * (0 : Nat))).toNat, 0, 0), [some (zvr (154)), none, some (zvi ((1 : Int))), some (zvi (5 + b 3 + 33 * (0 : Nat)))], ⟨rfl, rfl, (congrArg (fun z => some (zvi z)) (by omega)), rfl⟩, 1, 0, rfl, rfl, rfl, rfl, rfl, rfl, rfl, (by omega), (by first | exact Or.inl rfl | exact Or.inr rfl), (by omega), (by intro h; omega), (fun _ s h => absurd h (Nat.not_lt_zero s)), (by intro h h9; have := h9.2.2.2.1; omega)⟩
          · refine And.intro (Or.inl rfl) ?_
            refine hQ _ ?_
            · first
              | (refine Or.inr ⟨rfl, ?_⟩
                 rintro ⟨q1, q2, q3, -⟩
                 omega)
              | (refine Or.inr ⟨rfl, ?_⟩
                 exact h4 (by omega))
              | (rcases hu0 with e | e
                 · exact Or.inr ⟨e, h4 e⟩
                 · refine Or.inl ⟨e, h1.1, h1.2.1, h1.2.2, h2 e, fun s hs => h3 e s ?_⟩
                   have := h2 e
                   omega)
  · rintro nM lsM stM I1 L1 R1 S1 hz1 ⟨u, k, rfl, rfl, rfl, rfl, rfl, rfl, rfl, hk, hu0, h1, h2, h3, h4⟩
    refine And.intro (zA_154 hS) (zrd (v := bc) hbc ?_)
    refine And.intro ⟨(by omega), (by omega)⟩ ⟨fun h78 => ?_, fun h78 => ?_⟩
    · refine And.intro (by omega) ?_
      refine hQ _ ?_
      · first
        | (refine Or.inr ⟨rfl, ?_⟩
           rintro ⟨q1, q2, q3, -⟩
           omega)
        | (refine Or.inr ⟨rfl, ?_⟩
           exact h4 (by omega))
        | (rcases hu0 with e | e
           · exact Or.inr ⟨e, h4 e⟩
           · refine Or.inl ⟨e, h1.1, h1.2.1, h1.2.2, h2 e, fun s hs => h3 e s ?_⟩
             have := h2 e
             omega)
    · refine And.intro (by omega) ⟨fun h82 => ?_, fun h82 => ?_⟩
      · refine And.intro (by omega) ?_
        refine hQ _ ?_
        · first
          | (refine Or.inr ⟨rfl, ?_⟩
             rintro ⟨q1, q2, q3, -⟩
             omega)
          | (refine Or.inr ⟨rfl, ?_⟩
             exact h4 (by omega))
          | (rcases hu0 with e | e
             · exact Or.inr ⟨e, h4 e⟩
             · refine Or.inl ⟨e, h1.1, h1.2.1, h1.2.2, h2 e, fun s hs => h3 e s ?_⟩
               have := h2 e
               omega)
      · refine And.intro (zA_154 hS) (zrdR (v := some 164) (zR_154_12 hR) ?_)
        refine And.intro (zP_164 hS (by omega) (by omega)) (fun v90 e90 r90 => ?_)
        have f90 : v90 = b (5 + (b 3).toNat + 33 * k) := (by rw [e90, (hb _ (by omega)).1]; congr 1; omega)
        refine And.intro ⟨r90, (zRb rfl)⟩ ⟨fun h92 => ?_, fun h92 => ?_⟩
        · refine ⟨((300 - (5 + b 3 + 33 * (k + 1))).toNat, 0, 0), zlt6 (by omega), [some (zvr (154)), none, some (zvi ((0 : Int))), some (zvi (5 + b 3 + 33 * (k + 1)))], ⟨rfl, rfl, (congrArg (fun z => some (zvi z)) (by omega)), rfl⟩, 0, (k + 1), rfl, rfl, rfl, rfl, rfl, rfl, rfl, (by omega), (by first | exact Or.inl rfl | exact Or.inr rfl), (by omega), (by intro h; first | exact absurd h (by decide) | exact h2 (by omega)), ?_, ?_⟩
          · intro h s hs
            by_cases e : s = k
            · subst e
              first | exact absurd h (by decide) | omega
            · exact h3 (by omega) s (by omega)
          · intro h h9
            first
            | exact absurd h (by decide)
            | (have q := h9.2.2.2.2 k (by have := h2 (by omega); omega)
               omega)
        · refine ⟨((300 - (5 + b 3 + 33 * (k + 1))).toNat, 0, 0), zlt6 (by omega), [some (zvr (154)), none, some (zvi ((1 : Int))), some (zvi (5 + b 3 + 33 * (k + 1)))], ⟨rfl, rfl, (congrArg (fun z => some (zvi z)) (by omega)), rfl⟩, 1, (k + 1), rfl, rfl, rfl, rfl, rfl, rfl, rfl, (by omega), (by first | exact Or.inl rfl | exact Or.inr rfl), (by omega), (by intro h; first | exact absurd h (by decide) | exact h2 (by omega)), ?_, ?_⟩
          · intro h s hs
            by_cases e : s = k
            · subst e
              first | exact absurd h (by decide) | omega
            · exact h3 (by omega) s (by omega)
          · intro h h9
            first
            | exact absurd h (by decide)
            | (have q := h9.2.2.2.2 k (by have := h2 (by omega); omega)
               omega))
def T_A_proves : ZT := fun args I L R S Q => ∃ (bc : Nat) (cn : Nat) (t : Nat → Nat → Int) (n : Nat → Nat) (b : Nat → Int) (l : Nat) (z : Nat), args = [zvr 154] ∧ (zSh S) ∧ (zRs R) ∧ (zSt I L) ∧ (zRA cn t n I) ∧ (I 154 13 = bc) ∧ (5 ≤ bc ∧ bc ≤ 201) ∧ (∀ i : Nat, i < bc → I 164 i = b i ∧ 0 ≤ b i ∧ b i ≤ 255) ∧ (b 3 = l ∧ l ≤ 64) ∧ (b (4 + l) = z ∧ bc = 5 + l + 33 * z) ∧ (b 0 < cn) ∧ ∀ (v : Int) (I' : ZI), ((v = 1 ∧ ∀ i : Nat, i < 32 → ckD b l z i = rD (t (b 0).toNat) (n (b 0).toNat) (rT (n (b 0).toNat)) 0 i) ∨ (v = 0 ∧ ¬ ∀ i : Nat, i < 32 → ckD b l z i = rD (t (b 0).toNat) (n (b 0).toNat) (rT (n (b 0).toNat)) 0 i)) → (∀ c j : Nat, ¬ c = 160 → ¬ c = 161 → ¬ c = 162 → ¬ c = 163 → ¬ (c = 154 ∧ j = 8) → I' c j = I c j) → Q (some (zvi (v))) I' L R S
theorem sn_A_proves : ZSnd 5 5 20 T_A_proves := ZSnd.loops (zT5_20 4) (by
  rintro args I L R S Q hz ⟨bc, cn, t, n, b, l, z, rfl, hS, hR, hT, hRA, hbc, h0, hb, h3, hz0, h1, hQ⟩
  obtain ⟨hc, hcn, hr⟩ := id hRA
  have b0 := hb 0 (by omega)
  have b1 := hb 1 (by omega)
  have b2 := hb 2 (by omega)
  have b3 := hb 3 (by omega)
  refine ⟨[32, 61, 87], fun nM tM lsM stM I1 L1 R1 S1 => match tM with
      | 32 => ∃ (i : Int), nM = (3, (70 - i).toNat, 0) ∧ lsM = [some (zvr (154)), some (zvi (4 + l)), some (zvi (i)), none] ∧ stM = [] ∧ L1 = L ∧ R1 = R ∧ S1 = S ∧ (4 ≤ i ∧ i ≤ 4 + l) ∧ (I1 154 8 = i - 1) ∧ (∀ j : Nat, (j : Int) < i - 1 → I1 160 j = ckM b j) ∧ (∀ c j : Nat, ¬ c = 160 → ¬ (c = 154 ∧ j = 8) → I1 c j = I c j)
      | 61 => ∃ (k : Nat), nM = (2, (z - k), 0) ∧ lsM = [some (zvr (154)), some (zvi (4 + l)), some (zvi (5 + l + 33 * k)), none] ∧ stM = [] ∧ L1 = L ∧ R1 = R ∧ S1 = S ∧ (k ≤ z) ∧ (∀ i : Nat, i < 32 → I1 163 i = ckD b l k i) ∧ (∀ c j : Nat, ¬ c = 160 → ¬ c = 161 → ¬ c = 162 → ¬ c = 163 → ¬ (c = 154 ∧ j = 8) → I1 c j = I c j)
      | 87 => ∃ (u : Int) (i : Int), nM = (1, (32 - i).toNat, 0) ∧ lsM = [some (zvr (154)), none, some (zvi (u)), some (zvi (i))] ∧ stM = [] ∧ L1 = L ∧ R1 = R ∧ S1 = S ∧ (0 ≤ i ∧ i ≤ 32) ∧ (u = 0 ∨ u = 1) ∧ (∀ i : Nat, i < 32 → I1 163 i = ckD b l z i) ∧ (u = 1 → ∀ j : Nat, (j : Int) < i → ckD b l z j = rD (t (b 0).toNat) (n (b 0).toNat) (rT (n (b 0).toNat)) 0 j) ∧ (u = 0 → ¬ ∀ i : Nat, i < 32 → ckD b l z i = rD (t (b 0).toNat) (n (b 0).toNat) (rT (n (b 0).toNat)) 0 i) ∧ (∀ c j : Nat, ¬ c = 160 → ¬ c = 161 → ¬ c = 162 → ¬ c = 163 → ¬ (c = 154 ∧ j = 8) → I1 c j = I c j)
      | _ => False, rfl, ?_, ⟨?_, ?_, ?_, True.intro⟩⟩
  · refine And.intro (zA_154 hS) (zrdR (v := some 164) (zR_154_12 hR) ?_)
    refine And.intro (zP_164 hS (by omega) (by omega)) (fun v6 e6 r6 => ?_)
    have f6 : v6 = b 3 := (e6.trans b3.1)
    refine And.intro (zA_154 hS) (zrdR (v := some 164) (zR_154_12 hR) ?_)
    refine And.intro (zP_164 hS (by omega) (by omega)) (fun v15 e15 r15 => ?_)
    have f15 : v15 = b 1 := (e15.trans b1.1)
    have f15b : 0 ≤ v15 ∧ v15 ≤ 255 := (by omega)
    refine And.intro (zA_154 hS) (zrdR (v := some 164) (zR_154_12 hR) ?_)
    refine And.intro (zP_164 hS (by omega) (by omega)) (fun v25 e25 r25 => ?_)
    have f25 : v25 = b 2 := (e25.trans b2.1)
    have f25b : 0 ≤ v25 ∧ v25 ≤ 255 := (by omega)
    refine And.intro (zA_154 hS) (Exists.intro _ (And.intro (zinl_ok (zT5_3 3)) (And.intro rfl ?_)))
    refine And.intro (zA_154 hS) ⟨_, (zWi (zRb rfl)), ?_⟩
    refine And.intro (zA_154 hS) (Exists.intro _ (And.intro (zinl_ok (zT5_1 2)) (And.intro rfl ?_)))
    refine And.intro (zA_154 hS) (zrd (v := 0) rfl ?_)
    refine And.intro (zA_154 hS) (zrdR (v := some 160) (zR_154_7 hR) ?_)
    refine And.intro (zN_160 hS) (zrdN (v := 128) (zV_160 hS) ?_)
    refine And.intro ⟨(zRb rfl), (zRb rfl)⟩ (zbf rfl ?_)
    refine And.intro (zA_154 hS) (zrdR (v := some 160) (zR_154_7 hR) ?_)
    refine And.intro (zA_154 hS) (zrd (v := 0) rfl ?_)
    have b24_27_7 : (zand 0 255) = 0 % 256 := zand255 _
    refine And.intro ⟨(zx0 rfl), (zP_160 hS (by omega) (by omega))⟩ ⟨_, (zWi zr_and), ?_⟩
    refine And.intro (zA_154 hS) (zrd (v := 0) rfl ?_)
    refine And.intro (zA_154 hS) ⟨_, (zWi (zRb rfl)), ?_⟩
    refine And.intro ⟨(by omega), (zRb rfl), (by decide)⟩ (zdv (by omega) (fun q15_27 e15_27 => ?_))
    refine And.intro (zA_154 hS) (Exists.intro _ (And.intro (zinl_ok (zT5_1 2)) (And.intro rfl ?_)))
    refine And.intro (zA_154 hS) (zrd (v := (0 + 1)) rfl ?_)
    refine And.intro (zA_154 hS) (zrdR (v := some 160) (zR_154_7 hR) ?_)
    refine And.intro (zN_160 hS) (zrdN (v := 128) (zV_160 hS) ?_)
    refine And.intro ⟨(zRb rfl), (zRb rfl)⟩ (zbf rfl ?_)
    refine And.intro (zA_154 hS) (zrdR (v := some 160) (zR_154_7 hR) ?_)
    refine And.intro (zA_154 hS) (zrd (v := (0 + 1)) rfl ?_)
    have b24_27_16 : (zand q15_27 255) = q15_27 % 256 := zand255 _
    refine And.intro ⟨(zx0 rfl), (zP_160 hS (by omega) (by omega))⟩ ⟨_, (zWi zr_and), ?_⟩
    refine And.intro (zA_154 hS) (zrd (v := (0 + 1)) rfl ?_)
    refine And.intro (zA_154 hS) ⟨_, (zWi (zRb rfl)), ?_⟩
    refine And.intro ⟨(by omega), (zRb rfl), (by decide)⟩ (zdv (by omega) (fun q24_27 e24_27 => ?_))
    refine And.intro (zA_154 hS) (Exists.intro _ (And.intro (zinl_ok (zT5_1 2)) (And.intro rfl ?_)))
    refine And.intro (zA_154 hS) (zrd (v := ((0 + 1) + 1)) rfl ?_)
    refine And.intro (zA_154 hS) (zrdR (v := some 160) (zR_154_7 hR) ?_)
    refine And.intro (zN_160 hS) (zrdN (v := 128) (zV_160 hS) ?_)
    refine And.intro ⟨(zRb rfl), (zRb rfl)⟩ (zbf rfl ?_)
    refine And.intro (zA_154 hS) (zrdR (v := some 160) (zR_154_7 hR) ?_)
    refine And.intro (zA_154 hS) (zrd (v := ((0 + 1) + 1)) rfl ?_)
    have b24_27_25 : (zand q24_27 255) = q24_27 % 256 := zand255 _
    refine And.intro ⟨(zx0 rfl), (zP_160 hS (by omega) (by omega))⟩ ⟨_, (zWi zr_and), ?_⟩
    refine And.intro (zA_154 hS) (zrd (v := ((0 + 1) + 1)) rfl ?_)
    refine And.intro (zA_154 hS) ⟨_, (zWi (zRb rfl)), ?_⟩
    refine ⟨(3, (70 - (4 : Int)).toNat, 0), [some (zvr (154)), some (zvi (4 + l)), some (zvi ((4 : Int))), none], ⟨rfl, (congrArg (fun z => some (zvi z)) (by omega)), rfl, rfl⟩, 4, rfl, rfl, rfl, rfl, rfl, rfl, (by omega), (Eq.trans (b := ((((0 + 1) + 1) + 1) : Int)) rfl (by omega)), ?_, (fun c j h0 h1 => (zxcj h1 (zxu h0 (zxcj h1 (zxu h0 (zxcj h1 (zxu h0 (zxcj h1 rfl))))))))⟩
    · intro j hj
      have z9 : j = 0 ∨ j = 1 ∨ j = 2 := by omega
      rcases z9 with rfl | rfl | rfl
      · exact (show zand 0 255 = ckM b 0 by rw [b24_27_7]; rfl)
      · exact (show zand q15_27 255 = ckM b 1 by rw [b24_27_16]; show _ = b 1; omega)
      · exact (show zand q24_27 255 = ckM b 2 by rw [b24_27_25]; show _ = b 2; omega)
  · rintro nM lsM stM I1 L1 R1 S1 hz1 ⟨i, rfl, rfl, rfl, rfl, rfl, rfl, hi, hp, hm1, fr⟩
    refine And.intro ⟨(by omega), (by omega)⟩ ⟨fun h34 => ?_, fun h34 => ?_⟩
    · refine And.intro (zA_154 hS) ⟨_, sn_A_dig.up (by decide), ?_⟩
      refine ⟨_, (ckM b), rfl, hS, hR, (zStf hT (fun c j h1 h2 => ⟨((fr c j (by omega) (by omega)).trans rfl), rfl⟩)), hp, (by omega), (fun j hj => hm1 j (by omega)), ?_⟩
      intro I54o p54hd p54bfr
      refine ⟨(2, (z - (0 : Nat)), 0), zlt6 (by omega), [some (zvr (154)), some (zvi (4 + l)), some (zvi (5 + l + 33 * (0 : Nat))), none], ⟨rfl, rfl, (congrArg (fun z => some (zvi z)) (by omega)), rfl⟩, 0, rfl, rfl, rfl, rfl, rfl, rfl, (by omega), ?_, (fun c j h0 h1 h2 h3 h4 => ((p54bfr c j (by omega) (by omega) (by omega) (by omega) (by omega)).trans ((fr c j (by omega) (by omega)).trans rfl)))⟩
      · intro j hj
        refine (p54hd j hj).trans ?_
        show _ = shD (ckM b) (3 + l) j
        rw [show (i - 1).toNat = 3 + l by omega]
    · refine And.intro (zA_154 hS) (zrdR (v := some 164) (zR_154_12 hR) ?_)
      refine And.intro (zP_164 hS (by omega) (by omega)) (fun v43 e43 r43 => ?_)
      refine And.intro (zA_154 hS) (Exists.intro _ (And.intro (zinl_ok (zT5_1 3)) (And.intro rfl ?_)))
      refine And.intro (zA_154 hS) (zrd (v := (i - 1)) hp ?_)
      refine And.intro (zA_154 hS) (zrdR (v := some 160) (zR_154_7 hR) ?_)
      refine And.intro (zN_160 hS) (zrdN (v := 128) (zV_160 hS) ?_)
      refine And.intro ⟨(by omega), (zRb rfl)⟩ ⟨(fun h9_44 => False.elim (by omega)), fun h9_44 => ?_⟩
      refine And.intro (zA_154 hS) (zrdR (v := some 160) (zR_154_7 hR) ?_)
      refine And.intro (zA_154 hS) (zrd (v := (i - 1)) hp ?_)
      have b24_44 : (zand v43 255) = v43 % 256 := zand255 _
      refine And.intro ⟨(zx0 rfl), (zP_160 hS (by omega) (by omega))⟩ ⟨_, (zWi zr_and), ?_⟩
      refine And.intro (zA_154 hS) (zrd (v := (i - 1)) hp ?_)
      refine And.intro (zA_154 hS) ⟨_, (zWi (by omega)), ?_⟩
      refine ⟨(3, (70 - (i + 1)).toNat, 0), zlt6 (by omega), [some (zvr (154)), some (zvi (4 + l)), some (zvi ((i + 1))), none], ⟨rfl, rfl, rfl, rfl⟩, (i + 1), rfl, rfl, rfl, rfl, rfl, rfl, (by omega), (Eq.trans (b := (((i - 1) + 1) : Int)) rfl (by omega)), ?_, (fun c j h0 h1 => (zxcj h1 (zxu h0 ((fr c j (by omega) (by omega)).trans rfl))))⟩
      · intro j hj
        by_cases h : j = (i - 1).toNat
        · subst h
          refine (zxu (by decide) zxe).trans ?_
          obtain ⟨q1, q2, q3⟩ := hb i.toNat (by omega)
          rw [b24_44, e43, fr _ _ (by omega) (by omega), q1]
          unfold ckM
          rw [if_neg (by omega), if_neg (by omega), show (i - 1).toNat + 1 = i.toNat by omega]
          omega
        · exact zxu (by decide) (zxs h (hm1 j (by omega)))
  · rintro nM lsM stM I1 L1 R1 S1 hz1 ⟨k, rfl, rfl, rfl, rfl, rfl, rfl, hk, hd, fr⟩
    refine And.intro (zA_154 hS) (zrd (v := bc) ((fr 154 13 (by omega) (by omega) (by omega) (by omega) (by omega)).trans hbc) ?_)
    refine And.intro ⟨(by omega), (by omega)⟩ ⟨fun h69 => ?_, fun h69 => ?_⟩
    · refine ⟨(1, (32 - (0 : Int)).toNat, 0), zlt6 (by omega), [some (zvr (154)), none, some (zvi ((1 : Int))), some (zvi ((0 : Int)))], ⟨rfl, rfl, rfl, rfl⟩, 1, 0, rfl, rfl, rfl, rfl, rfl, rfl, (by omega), (Or.inr rfl), (by have e : k = z := (by omega); subst e; exact hd), (fun _ j h => absurd h (by omega)), (fun h => absurd h (by omega)), (fun c j h0 h1 h2 h3 h4 => ((fr c j (by omega) (by omega) (by omega) (by omega) (by omega)).trans rfl))⟩
    · refine And.intro (zA_154 hS) ⟨_, sn_A_step.up (by decide), ?_⟩
      refine ⟨((5 + l + 33 * k) : Int), bc, b, (ckD b l k), rfl, hS, hR, (zStf hT (fun c j h1 h2 => ⟨((fr c j (by omega) (by omega) (by omega) (by omega) (by omega)).trans rfl), rfl⟩)), (by omega), (fun i hi => ⟨(fr 164 _ (by omega) (by omega) (by omega) (by omega) (by omega)).trans (hb i hi).1, (hb i hi).2⟩), (fun i hi => ⟨hd i hi, ckD_b _ _ _ _⟩), ?_⟩
      intro I74o p74hp p74bfr
      refine ⟨(2, (z - (k + 1)), 0), zlt6 (by omega), [some (zvr (154)), some (zvi (4 + l)), some (zvi (5 + l + 33 * (k + 1))), none], ⟨rfl, rfl, (congrArg (fun z => some (zvi z)) (by omega)), rfl⟩, (k + 1), rfl, rfl, rfl, rfl, rfl, rfl, (by omega), ?_, (fun c j h0 h1 h2 h3 h4 => ((p74bfr c j (by omega) (by omega) (by omega) (by omega) (by omega)).trans ((fr c j (by omega) (by omega) (by omega) (by omega) (by omega)).trans rfl)))⟩
      · intro j hj
        refine (p74hp j hj).trans ?_
        show _ = shD (if b (5 + l + 33 * k) = 0 then rnM (fun i => b (6 + l + 33 * k + i)) (ckD b l k) else rnM (ckD b l k) (fun i => b (6 + l + 33 * k + i))) 65 j
        rw [show (5 + (l : Int) + 33 * k).toNat = 5 + l + 33 * k by omega]
        rw [show 5 + l + 33 * k + 1 = 6 + l + 33 * k by omega]
  · rintro nM lsM stM I1 L1 R1 S1 hz1 ⟨u, i, rfl, rfl, rfl, rfl, rfl, rfl, hi, hu0, hd, h4, h5, fr⟩
    refine And.intro ⟨(by omega), (zRb rfl)⟩ ⟨fun h90 => ?_, fun h90 => ?_⟩
    · refine And.intro (by omega) ?_
      refine hQ _ _ ?_ (fun c j h0 h1 h2 h3 h4 => ((fr c j (by omega) (by omega) (by omega) (by omega) (by omega)).trans rfl))
      · rcases hu0 with e | e
        · exact Or.inr ⟨e, h5 e⟩
        · exact Or.inl ⟨e, fun j hj => h4 e j (by omega)⟩
    · refine And.intro (by omega) ⟨fun h94 => ?_, fun h94 => ?_⟩
      · refine And.intro (by omega) ?_
        refine hQ _ _ ?_ (fun c j h0 h1 h2 h3 h4 => ((fr c j (by omega) (by omega) (by omega) (by omega) (by omega)).trans rfl))
        · rcases hu0 with e | e
          · exact Or.inr ⟨e, h5 e⟩
          · exact Or.inl ⟨e, fun j hj => h4 e j (by omega)⟩
      · refine And.intro (zA_154 hS) (zrdR (v := some 163) (zR_154_11 hR) ?_)
        refine And.intro (zP_163 hS (by omega) (by omega)) (fun v102 e102 r102 => ?_)
        refine And.intro (zA_154 hS) (zrdR (v := some 164) (zR_154_12 hR) ?_)
        refine And.intro (zP_164 hS (by omega) (by omega)) (fun v109 e109 r109 => ?_)
        have f109 : v109 = b 0 := (e109.trans ((fr 164 _ (by omega) (by omega) (by omega) (by omega) (by omega)).trans b0.1))
        have f109b : 0 ≤ v109 ∧ v109 ≤ 255 := (by omega)
        refine And.intro (zA_154 hS) ⟨_, sn_A_rootByte.up (by decide), ?_⟩
        refine ⟨(v109 : Int), (i : Int), _, _, _, rfl, hS, hR, (by clear hQ; grind [xu]), (by clear hQ; grind [xu]), (zRA_fr hRA (fun c j h => fr c j (by omega) (by omega) (by omega) (by omega) (by omega))), ?_⟩
        intro v111o p111hv
        have f111 : 0 ≤ v111o ∧ v111o ≤ 255 := (by rw [p111hv, if_pos (by omega)]; exact rD_b _ _ _ _ _)
        refine And.intro ⟨r102, (by omega)⟩ ⟨fun h114 => ?_, fun h114 => ?_⟩
        · refine ⟨(1, (32 - (i + 1)).toNat, 0), zlt6 (by omega), [some (zvr (154)), none, some (zvi ((0 : Int))), some (zvi ((i + 1)))], ⟨rfl, rfl, rfl, rfl⟩, 0, (i + 1), rfl, rfl, rfl, rfl, rfl, rfl, (by omega), (by first | exact Or.inl rfl | exact Or.inr rfl), hd, ?_, ?_, (fun c j h0 h1 h2 h3 h4 => ((fr c j (by omega) (by omega) (by omega) (by omega) (by omega)).trans rfl))⟩
          · intro h j hj
            first
            | exact absurd h (by decide)
            | (by_cases e : (j : Int) = i
               · have e2 : i.toNat = j := by omega
                 rw [if_pos (by omega), f109, e2] at p111hv
                 rw [← hd j (by omega), ← p111hv, ← h114, e102, e2]
               · exact h4 (by omega) j (by omega))
          · intro h h9
            first
            | exact absurd h (by decide)
            | (rw [if_pos (by omega), f109] at p111hv
               have q := h9 i.toNat (by omega)
               rw [← hd i.toNat (by omega), ← e102, ← p111hv] at q
               exact h114 q)
        · refine ⟨(1, (32 - (i + 1)).toNat, 0), zlt6 (by omega), [some (zvr (154)), none, some (zvi ((1 : Int))), some (zvi ((i + 1)))], ⟨rfl, rfl, rfl, rfl⟩, 1, (i + 1), rfl, rfl, rfl, rfl, rfl, rfl, (by omega), (by first | exact Or.inl rfl | exact Or.inr rfl), hd, ?_, ?_, (fun c j h0 h1 h2 h3 h4 => ((fr c j (by omega) (by omega) (by omega) (by omega) (by omega)).trans rfl))⟩
          · intro h j hj
            first
            | exact absurd h (by decide)
            | (by_cases e : (j : Int) = i
               · have e2 : i.toNat = j := by omega
                 rw [if_pos (by omega), f109, e2] at p111hv
                 rw [← hd j (by omega), ← p111hv, ← h114, e102, e2]
               · exact h4 (by omega) j (by omega))
          · intro h h9
            first
            | exact absurd h (by decide)
            | (rw [if_pos (by omega), f109] at p111hv
               have q := h9 i.toNat (by omega)
               rw [← hd i.toNat (by omega), ← e102, ← p111hv] at q
               exact h114 q))
def T_A_check : ZT := fun args I L R S Q => ∃ (a : Int) (k : Int) (q : Int) (m : Int) (cn : Nat) (t : Nat → Nat → Int) (n : Nat → Nat), args = [zvr 154, zvi a, zvi k, zvi q, zvi m] ∧ (zSh S) ∧ (zRs R) ∧ (zSt I L) ∧ (r32 a ∧ r32 k ∧ r32 q ∧ r32 m) ∧ (zRA cn t n I) ∧ ∀ (v : Int) (I' : ZI), ((¬ (0 ≤ a ∧ a < cn ∧ 0 ≤ k ∧ k < rW (n a.toNat) 0 ∧ -1 ≤ q ∧ q < ckC (n a.toNat) k.toNat) ∧ v = -1) ∨ ((0 ≤ a ∧ a < cn ∧ 0 ≤ k ∧ k < rW (n a.toNat) 0 ∧ -1 ≤ q ∧ q < ckC (n a.toNat) k.toNat) ∧ ((v = 1 ∧ ckH cn t n (ckP (ckB (t a.toNat) (n a.toNat) a.toNat k.toNat) q m) (ckC (n a.toNat) k.toNat)) ∨ (v = 0 ∧ ¬ ckH cn t n (ckP (ckB (t a.toNat) (n a.toNat) a.toNat k.toNat) q m) (ckC (n a.toNat) k.toNat))))) → (∀ c j : Nat, ¬ c = 160 → ¬ c = 161 → ¬ c = 162 → ¬ c = 163 → ¬ c = 164 → ¬ (c = 154 ∧ j = 8) → ¬ (c = 154 ∧ j = 13) → I' c j = I c j) → Q (some (zvi (v))) I' L R S
theorem sn_A_check : ZSnd 6 5 4 T_A_check := ZSnd.loops (zT5_4 5) (by
  rintro args I L R S Q hz ⟨a, k, q, m, cn, t, n, rfl, hS, hR, hT, ra, hRA, hQ⟩
  obtain ⟨hc, hcn, hr⟩ := id hRA
  refine ⟨[52], fun nM tM lsM stM I1 L1 R1 S1 => match tM with
      | 52 => ∃ (i : Int), nM = ((65 - i).toNat, 0, 0) ∧ lsM = [some (zvr (154)), some (zvi (a)), some (zvi (k)), some (zvi (q)), some (zvi (m)), some (zvi (i))] ∧ stM = [] ∧ L1 = L ∧ R1 = R ∧ S1 = S ∧ (0 ≤ a ∧ a < cn ∧ 0 ≤ k ∧ k < rW (n a.toNat) 0 ∧ k ≤ 7 ∧ 1 ≤ n a.toNat ∧ n a.toNat ≤ 512) ∧ (0 ≤ i ∧ i ≤ ckL (n a.toNat) k.toNat) ∧ (i ≤ 64) ∧ (I1 154 13 = 4 + i) ∧ (∀ j : Nat, (j : Int) < 4 + i → I1 164 j = ckB (t a.toNat) (n a.toNat) a.toNat k.toNat j) ∧ (∀ c j : Nat, ¬ c = 164 → ¬ (c = 154 ∧ j = 13) → I1 c j = I c j)
      | _ => False, rfl, ?_, ⟨?_, True.intro⟩⟩
  · refine And.intro (zA_154 hS) (Exists.intro _ (And.intro (zinl_ok (zT5_10 4)) (And.intro rfl ?_)))
    refine And.intro (by omega) ⟨fun h1_3 => ?_, fun h1_3 => ?_⟩
    · refine And.intro (Or.inl rfl) ?_
      refine And.intro (zRb rfl) (zbf rfl ?_)
      refine hQ _ _ ?_ (fun c j h0 h1 h2 h3 h4 h5 h6 => rfl)
      · first
        | exact Or.inl ⟨by omega, rfl⟩
        | (refine Or.inr ⟨by omega, Or.inl ⟨rfl, ?_⟩⟩
           rcases p133hv with w | w
           · rcases p140hv with w2 | w2
             · exact ⟨w.2, w2.2⟩
             · exfalso; omega
           · exfalso; omega)
        | (refine Or.inr ⟨by omega, Or.inr ⟨rfl, fun h9 => ?_⟩⟩
           rcases p133hv with w | w
           · exfalso; omega
           · exact w.2 h9.1)
        | (refine Or.inr ⟨by omega, Or.inr ⟨rfl, fun h9 => ?_⟩⟩
           rcases p140hv with w2 | w2
           · exfalso; omega
           · exact w2.2 h9.2)
    · refine And.intro (zA_154 hS) (Exists.intro _ (And.intro (zinl_ok (zT5_14 3)) (And.intro rfl ?_)))
      refine And.intro (zA_154 hS) (Exists.intro _ (And.intro (zinl_ok (zT5_11 2)) (And.intro rfl ?_)))
      refine And.intro (by omega) ⟨fun h1_3_7_2 => ?_, fun h1_3_7_2 => ?_⟩
      · refine And.intro (Or.inl rfl) ?_
        refine And.intro (zRb rfl) (zbt rfl ?_)
        refine And.intro ⟨(by omega), (zRb rfl)⟩ ⟨fun h10_3 => ?_, (fun h10_3 => False.elim (by omega))⟩
        refine And.intro (Or.inl rfl) ?_
        refine And.intro (zRb rfl) (zbf rfl ?_)
        refine hQ _ _ ?_ (fun c j h0 h1 h2 h3 h4 h5 h6 => rfl)
        · first
          | exact Or.inl ⟨by omega, rfl⟩
          | (refine Or.inr ⟨by omega, Or.inl ⟨rfl, ?_⟩⟩
             rcases p133hv with w | w
             · rcases p140hv with w2 | w2
               · exact ⟨w.2, w2.2⟩
               · exfalso; omega
             · exfalso; omega)
          | (refine Or.inr ⟨by omega, Or.inr ⟨rfl, fun h9 => ?_⟩⟩
             rcases p133hv with w | w
             · exfalso; omega
             · exact w.2 h9.1)
          | (refine Or.inr ⟨by omega, Or.inr ⟨rfl, fun h9 => ?_⟩⟩
             rcases p140hv with w2 | w2
             · exfalso; omega
             · exact w2.2 h9.2)
      · refine And.intro (zA_154 hS) (zrd (v := cn) hc ?_)
        refine And.intro ⟨(by omega), (by omega)⟩ ⟨fun h9_3_7_2 => ?_, fun h9_3_7_2 => ?_⟩
        · refine And.intro (Or.inl rfl) ?_
          refine And.intro (zRb rfl) (zbt rfl ?_)
          refine And.intro ⟨(by omega), (zRb rfl)⟩ ⟨fun h10_3 => ?_, (fun h10_3 => False.elim (by omega))⟩
          refine And.intro (Or.inl rfl) ?_
          refine And.intro (zRb rfl) (zbf rfl ?_)
          refine hQ _ _ ?_ (fun c j h0 h1 h2 h3 h4 h5 h6 => rfl)
          · first
            | exact Or.inl ⟨by omega, rfl⟩
            | (refine Or.inr ⟨by omega, Or.inl ⟨rfl, ?_⟩⟩
               rcases p133hv with w | w
               · rcases p140hv with w2 | w2
                 · exact ⟨w.2, w2.2⟩
                 · exfalso; omega
               · exfalso; omega)
            | (refine Or.inr ⟨by omega, Or.inr ⟨rfl, fun h9 => ?_⟩⟩
               rcases p133hv with w | w
               · exfalso; omega
               · exact w.2 h9.1)
            | (refine Or.inr ⟨by omega, Or.inr ⟨rfl, fun h9 => ?_⟩⟩
               rcases p140hv with w2 | w2
               · exfalso; omega
               · exact w2.2 h9.2)
        · have t9_3_7_2 : 1 ≤ n a.toNat ∧ n a.toNat ≤ 512 ∧ rW (n a.toNat) 0 = (n a.toNat + 63) / 64 := ⟨(hr a.toNat (by omega)).1.1, (hr a.toNat (by omega)).1.2.1, rfl⟩
          refine And.intro (Or.inr rfl) ?_
          refine And.intro (zRb rfl) (zbf rfl ?_)
          refine And.intro (zA_154 hS) (zrdR (v := some 156) (zR_154_2 hR) ?_)
          refine And.intro (zP_156 hS (by omega) (by omega)) (fun v13_3_7 e13_3_7 r13_3_7 => ?_)
          have f13_3_7 : v13_3_7 = n a.toNat := e13_3_7.trans (hr a.toNat (by omega)).1.2.2
          refine And.intro ⟨(by omega), (zRb rfl), (by decide)⟩ (fun q21_3_7 e21_3_7 e21_3_7' => ?_)
          refine And.intro ⟨(by omega), (by omega)⟩ ⟨fun h10_3 => ?_, fun h10_3 => ?_⟩
          · refine And.intro (Or.inl rfl) ?_
            refine And.intro (zRb rfl) (zbf rfl ?_)
            refine hQ _ _ ?_ (fun c j h0 h1 h2 h3 h4 h5 h6 => rfl)
            · first
              | exact Or.inl ⟨by omega, rfl⟩
              | (refine Or.inr ⟨by omega, Or.inl ⟨rfl, ?_⟩⟩
                 rcases p133hv with w | w
                 · rcases p140hv with w2 | w2
                   · exact ⟨w.2, w2.2⟩
                   · exfalso; omega
                 · exfalso; omega)
              | (refine Or.inr ⟨by omega, Or.inr ⟨rfl, fun h9 => ?_⟩⟩
                 rcases p133hv with w | w
                 · exfalso; omega
                 · exact w.2 h9.1)
              | (refine Or.inr ⟨by omega, Or.inr ⟨rfl, fun h9 => ?_⟩⟩
                 rcases p140hv with w2 | w2
                 · exfalso; omega
                 · exact w2.2 h9.2)
          · refine And.intro (Or.inr rfl) ?_
            refine And.intro (zRb rfl) (zbt rfl ?_)
            refine And.intro (zA_154 hS) ⟨_, (zWi (zRb rfl)), ?_⟩
            refine And.intro (zA_154 hS) (Exists.intro _ (And.intro (zinl_ok (zT5_12 4)) (And.intro rfl ?_)))
            refine And.intro (zA_154 hS) (zrd (v := 0) rfl ?_)
            refine And.intro ⟨(zRb rfl), (zRb rfl)⟩ (zbf rfl ?_)
            refine And.intro (zA_154 hS) (zrdR (v := some 164) (zR_154_12 hR) ?_)
            refine And.intro (zA_154 hS) (zrd (v := 0) rfl ?_)
            refine And.intro ⟨(zx0 rfl), (zP_164 hS (by omega) (by omega))⟩ ⟨_, (zWi (by omega)), ?_⟩
            refine And.intro (zA_154 hS) (zrd (v := 0) rfl ?_)
            refine And.intro (zA_154 hS) ⟨_, (zWi (zRb rfl)), ?_⟩
            refine And.intro ⟨(by omega), (zRb rfl), (by decide)⟩ (zdv (by omega) (fun q26 e26 => ?_))
            refine And.intro (zA_154 hS) (Exists.intro _ (And.intro (zinl_ok (zT5_12 4)) (And.intro rfl ?_)))
            refine And.intro (zA_154 hS) (zrd (v := (0 + 1)) rfl ?_)
            refine And.intro ⟨(zRb rfl), (zRb rfl)⟩ (zbf rfl ?_)
            refine And.intro (zA_154 hS) (zrdR (v := some 164) (zR_154_12 hR) ?_)
            refine And.intro (zA_154 hS) (zrd (v := (0 + 1)) rfl ?_)
            refine And.intro ⟨(zx0 rfl), (zP_164 hS (by omega) (by omega))⟩ ⟨_, (zWi (by omega)), ?_⟩
            refine And.intro (zA_154 hS) (zrd (v := (0 + 1)) rfl ?_)
            refine And.intro (zA_154 hS) ⟨_, (zWi (zRb rfl)), ?_⟩
            refine And.intro ⟨(by omega), (zRb rfl), (by decide)⟩ (zdv (by omega) (fun q35 e35 => ?_))
            refine And.intro (zA_154 hS) (Exists.intro _ (And.intro (zinl_ok (zT5_12 4)) (And.intro rfl ?_)))
            refine And.intro (zA_154 hS) (zrd (v := ((0 + 1) + 1)) rfl ?_)
            refine And.intro ⟨(zRb rfl), (zRb rfl)⟩ (zbf rfl ?_)
            refine And.intro (zA_154 hS) (zrdR (v := some 164) (zR_154_12 hR) ?_)
            refine And.intro (zA_154 hS) (zrd (v := ((0 + 1) + 1)) rfl ?_)
            refine And.intro ⟨(zx0 rfl), (zP_164 hS (by omega) (by omega))⟩ ⟨_, (zWi (by omega)), ?_⟩
            refine And.intro (zA_154 hS) (zrd (v := ((0 + 1) + 1)) rfl ?_)
            refine And.intro (zA_154 hS) ⟨_, (zWi (zRb rfl)), ?_⟩
            refine And.intro (zA_154 hS) (Exists.intro _ (And.intro (zinl_ok (zT5_13 4)) (And.intro rfl ?_)))
            refine And.intro (zA_154 hS) (zrdR (v := some 156) (zR_154_2 hR) ?_)
            refine And.intro (zP_156 hS (by omega) (by omega)) (fun v7_43 e7_43 r7_43 => ?_)
            have f7_43 : v7_43 = n a.toNat := (by first | exact e7_43.trans (hr a.toNat (by omega)).1.2.2 | exact e7_57.trans ((fr 156 _ (by omega) (by omega)).trans hq.1.2.2))
            refine And.intro ⟨(zRb rfl), (by omega)⟩ ?_
            refine And.intro (zA_154 hS) (Exists.intro _ (And.intro (zinl_ok (zT5_12 4)) (And.intro rfl ?_)))
            refine And.intro (zA_154 hS) (zrd (v := (((0 + 1) + 1) + 1)) rfl ?_)
            refine And.intro ⟨(zRb rfl), (zRb rfl)⟩ (zbf rfl ?_)
            refine And.intro (zA_154 hS) (zrdR (v := some 164) (zR_154_12 hR) ?_)
            refine And.intro (zA_154 hS) (zrd (v := (((0 + 1) + 1) + 1)) rfl ?_)
            refine And.intro ⟨(zx0 rfl), (zP_164 hS (by omega) (by omega))⟩ ⟨_, (zWi (by omega)), ?_⟩
            refine And.intro (zA_154 hS) (zrd (v := (((0 + 1) + 1) + 1)) rfl ?_)
            refine And.intro (zA_154 hS) ⟨_, (zWi (zRb rfl)), ?_⟩
            refine ⟨((65 - (0 : Int)).toNat, 0, 0), [some (zvr (154)), some (zvi (a)), some (zvi (k)), some (zvi (q)), some (zvi (m)), some (zvi ((0 : Int)))], ⟨rfl, rfl, rfl, rfl, rfl, rfl, rfl⟩, 0, rfl, rfl, rfl, rfl, rfl, rfl, (by omega), (by omega), (by omega), (Eq.trans (b := (((((0 + 1) + 1) + 1) + 1) : Int)) rfl (by omega)), ?_, (fun c j h0 h1 => (zxcj h1 (zxu h0 (zxcj h1 (zxu h0 (zxcj h1 (zxu h0 (zxcj h1 (zxu h0 (zxcj h1 rfl))))))))))⟩
            · intro j hj
              have hl9 : ckL (n a.toNat) k.toNat = min 64 (n a.toNat - 64 * k.toNat) := rfl
              have z9 : j = 0 ∨ j = 1 ∨ j = 2 ∨ j = 3 := by omega
              rcases z9 with rfl | rfl | rfl | rfl
              · exact (show a = ((a.toNat : Nat) : Int) by omega)
              · exact (show q26 = ((k.toNat / 256 : Nat) : Int) by omega)
              · exact (show q35 = ((k.toNat % 256 : Nat) : Int) by omega)
              · exact (show min 64 (v7_43 - k * 64) = ((ckL (n a.toNat) k.toNat : Nat) : Int) by omega)
  · rintro nM lsM stM I1 L1 R1 S1 hz1 ⟨i, rfl, rfl, rfl, rfl, rfl, rfl, ha, hi, hi2, hp, hb, fr⟩
    have hq := hr a.toNat (by omega)
    have hpn : pfN (n a.toNat) k.toNat (rT (n a.toNat)) ≤ 3 := Nat.le_trans (pfN_le _ _ _) (rT_le _)
    have hw0 : rW (n a.toNat) 0 = (n a.toNat + 63) / 64 := rfl
    have hl9 : ckL (n a.toNat) k.toNat = min 64 (n a.toNat - 64 * k.toNat) := rfl
    have hc9 : ckC (n a.toNat) k.toNat = 5 + ckL (n a.toNat) k.toNat + 33 * pfN (n a.toNat) k.toNat (rT (n a.toNat)) := rfl
    refine And.intro (zA_154 hS) (Exists.intro _ (And.intro (zinl_ok (zT5_13 4)) (And.intro rfl ?_)))
    refine And.intro (zA_154 hS) (zrdR (v := some 156) (zR_154_2 hR) ?_)
    refine And.intro (zP_156 hS (by omega) (by omega)) (fun v7_57 e7_57 r7_57 => ?_)
    have f7_57 : v7_57 = n a.toNat := (by first | exact e7_43.trans (hr a.toNat (by omega)).1.2.2 | exact e7_57.trans ((fr 156 _ (by omega) (by omega)).trans hq.1.2.2))
    refine And.intro ⟨(zRb rfl), (by omega)⟩ ?_
    refine And.intro ⟨(by omega), (by omega)⟩ ⟨fun h60 => ?_, fun h60 => ?_⟩
    · refine And.intro (zA_154 hS) ⟨_, sn_A_addProof.up (by decide), ?_⟩
      refine ⟨(a : Int), (k : Int), ((4 + i) : Int), cn, t, n, rfl, hS, hR, (zRA_fr hRA (fun c j h => fr c j (by omega) (by omega))), (by omega), (by omega), hp, (by omega), ?_⟩
      intro I94o p94hp p94bhb p94bbfr
      have g94 : ∀ j : Nat, j < ckC (n a.toNat) k.toNat → I94o 164 j = ckB (t a.toNat) (n a.toNat) a.toNat k.toNat j := by
        intro j hj
        by_cases h : (j : Int) < 4 + i
        · exact (p94bbfr 164 j (by omega) (by omega)).trans (hb j h)
        · have w := p94bhb (j - 4 - ckL (n a.toNat) k.toNat) (by omega)
          rw [show (4 + i).toNat + (j - 4 - ckL (n a.toNat) k.toNat) = j by omega] at w
          rw [w]
          unfold ckB
          rw [if_neg (by omega), if_neg (by omega), if_neg (by omega), if_neg (by omega), if_neg (by omega)]
      have g94b : ∀ j : Nat, 0 ≤ ckB (t a.toNat) (n a.toNat) a.toNat k.toNat j ∧ ckB (t a.toNat) (n a.toNat) a.toNat k.toNat j ≤ 255 := (fun j => ckB_b (by omega) (by omega) (fun x hx => (hq.2.1 x hx).2) j)
      have g94bb : ∀ j : Nat, 0 ≤ ckP (ckB (t a.toNat) (n a.toNat) a.toNat k.toNat) q m j ∧ ckP (ckB (t a.toNat) (n a.toNat) a.toNat k.toNat) q m j ≤ 255 := by
        intro j
        unfold ckP
        split
        · exact zxor_byte (g94b j) (by rw [zand255]; omega)
        · exact g94b j
      refine And.intro ⟨(by omega), (zRb rfl)⟩ ⟨fun h99 => ?_, fun h99 => ?_⟩
      · refine hQ _ _ ?_ (fun c j h0 h1 h2 h3 h4 h5 h6 => ((p94bbfr c j (by omega) (by omega)).trans ((fr c j (by omega) (by omega)).trans rfl)))
        · first
          | exact Or.inl ⟨by omega, rfl⟩
          | (refine Or.inr ⟨by omega, Or.inl ⟨rfl, ?_⟩⟩
             rcases p133hv with w | w
             · rcases p140hv with w2 | w2
               · exact ⟨w.2, w2.2⟩
               · exfalso; omega
             · exfalso; omega)
          | (refine Or.inr ⟨by omega, Or.inr ⟨rfl, fun h9 => ?_⟩⟩
             rcases p133hv with w | w
             · exfalso; omega
             · exact w.2 h9.1)
          | (refine Or.inr ⟨by omega, Or.inr ⟨rfl, fun h9 => ?_⟩⟩
             rcases p140hv with w2 | w2
             · exfalso; omega
             · exact w2.2 h9.2)
      · refine And.intro (zA_154 hS) (zrd (v := ((4 + i) + 1 + 33 * pfN (n a.toNat) k.toNat (rT (n a.toNat)))) p94hp ?_)
        refine And.intro ⟨(by omega), (by omega)⟩ ⟨fun h107 => ?_, fun h107 => ?_⟩
        · refine And.intro ⟨(by omega), (zRb rfl)⟩ ⟨fun h114 => ?_, fun h114 => ?_⟩
          · refine And.intro (zA_154 hS) ⟨_, sn_A_isCheck.up (by decide), ?_⟩
            refine ⟨(ckC (n a.toNat) k.toNat), cn, (ckP (ckB (t a.toNat) (n a.toNat) a.toNat k.toNat) q m), rfl, hS, hR, ((p94bbfr 154 0 (by omega) (by omega)).trans ((fr 154 0 (by omega) (by omega)).trans hc)), hcn, ((rfl).trans (p94hp.trans (by omega))), (by omega), (fun j hj => ⟨by
  first
  | (refine (g94 j hj).trans ?_
     unfold ckP
     rw [if_neg (by omega)])
  | (unfold ckP
     by_cases h : (j : Int) = q
     · rw [if_pos h, show j = q.toNat by omega, zxe, e123, g94 _ (by omega)]
     · rw [if_neg h]
       exact zxs (by omega) (g94 j hj)), g94bb j⟩), ?_⟩
            intro v133o p133hv
            refine And.intro (by omega) ⟨fun h136 => ?_, fun h136 => ?_⟩
            · refine hQ _ _ ?_ (fun c j h0 h1 h2 h3 h4 h5 h6 => ((p94bbfr c j (by omega) (by omega)).trans ((fr c j (by omega) (by omega)).trans rfl)))
              · first
                | exact Or.inl ⟨by omega, rfl⟩
                | (refine Or.inr ⟨by omega, Or.inl ⟨rfl, ?_⟩⟩
                   rcases p133hv with w | w
                   · rcases p140hv with w2 | w2
                     · exact ⟨w.2, w2.2⟩
                     · exfalso; omega
                   · exfalso; omega)
                | (refine Or.inr ⟨by omega, Or.inr ⟨rfl, fun h9 => ?_⟩⟩
                   rcases p133hv with w | w
                   · exfalso; omega
                   · exact w.2 h9.1)
                | (refine Or.inr ⟨by omega, Or.inr ⟨rfl, fun h9 => ?_⟩⟩
                   rcases p140hv with w2 | w2
                   · exfalso; omega
                   · exact w2.2 h9.2)
            · refine And.intro (zA_154 hS) ⟨_, sn_A_proves.up (by decide), ?_⟩
              refine ⟨(ckC (n a.toNat) k.toNat), cn, t, n, (ckP (ckB (t a.toNat) (n a.toNat) a.toNat k.toNat) q m), ((ckP (ckB (t a.toNat) (n a.toNat) a.toNat k.toNat) q m) 3).toNat, ((ckP (ckB (t a.toNat) (n a.toNat) a.toNat k.toNat) q m) (4 + ((ckP (ckB (t a.toNat) (n a.toNat) a.toNat k.toNat) q m) 3).toNat)).toNat, rfl, hS, hR, (zStf hT (fun c j h1 h2 => ⟨((p94bbfr c j (by omega) (by omega)).trans ((fr c j (by omega) (by omega)).trans rfl)), rfl⟩)), (zRA_fr hRA (fun c j h => (rfl).trans ((p94bbfr c j (by omega) (by omega)).trans (fr c j (by omega) (by omega))))), ((rfl).trans (p94hp.trans (by omega))), (by omega), (fun j hj => ⟨by
  first
  | (refine (g94 j hj).trans ?_
     unfold ckP
     rw [if_neg (by omega)])
  | (unfold ckP
     by_cases h : (j : Int) = q
     · rw [if_pos h, show j = q.toNat by omega, zxe, e123, g94 _ (by omega)]
     · rw [if_neg h]
       exact zxs (by omega) (g94 j hj)), g94bb j⟩), (by
  rcases p133hv with w | w
  · have := w.2
    have h9 := g94bb 3
    unfold ckF at this
    omega
  · exfalso
    omega), (by
  rcases p133hv with w | w
  · have := w.2
    have h9 := g94bb 3
    have h8 := g94bb (4 + ((ckP (ckB (t a.toNat) (n a.toNat) a.toNat k.toNat) q m) 3).toNat)
    unfold ckF at this
    omega
  · exfalso
    omega), (by
  rcases p133hv with w | w
  · exact w.2.1
  · exfalso
    omega), ?_⟩
              intro v140o I140o p140hv p140bfr
              refine And.intro (by omega) ⟨fun h143 => ?_, fun h143 => ?_⟩
              · refine hQ _ _ ?_ (fun c j h0 h1 h2 h3 h4 h5 h6 => ((p140bfr c j (by omega) (by omega) (by omega) (by omega) (by omega)).trans ((p94bbfr c j (by omega) (by omega)).trans ((fr c j (by omega) (by omega)).trans rfl))))
                · first
                  | exact Or.inl ⟨by omega, rfl⟩
                  | (refine Or.inr ⟨by omega, Or.inl ⟨rfl, ?_⟩⟩
                     rcases p133hv with w | w
                     · rcases p140hv with w2 | w2
                       · exact ⟨w.2, w2.2⟩
                       · exfalso; omega
                     · exfalso; omega)
                  | (refine Or.inr ⟨by omega, Or.inr ⟨rfl, fun h9 => ?_⟩⟩
                     rcases p133hv with w | w
                     · exfalso; omega
                     · exact w.2 h9.1)
                  | (refine Or.inr ⟨by omega, Or.inr ⟨rfl, fun h9 => ?_⟩⟩
                     rcases p140hv with w2 | w2
                     · exfalso; omega
                     · exact w2.2 h9.2)
              · refine hQ _ _ ?_ (fun c j h0 h1 h2 h3 h4 h5 h6 => ((p140bfr c j (by omega) (by omega) (by omega) (by omega) (by omega)).trans ((p94bbfr c j (by omega) (by omega)).trans ((fr c j (by omega) (by omega)).trans rfl))))
                · first
                  | exact Or.inl ⟨by omega, rfl⟩
                  | (refine Or.inr ⟨by omega, Or.inl ⟨rfl, ?_⟩⟩
                     rcases p133hv with w | w
                     · rcases p140hv with w2 | w2
                       · exact ⟨w.2, w2.2⟩
                       · exfalso; omega
                     · exfalso; omega)
                  | (refine Or.inr ⟨by omega, Or.inr ⟨rfl, fun h9 => ?_⟩⟩
                     rcases p133hv with w | w
                     · exfalso; omega
                     · exact w.2 h9.1)
                  | (refine Or.inr ⟨by omega, Or.inr ⟨rfl, fun h9 => ?_⟩⟩
                     rcases p140hv with w2 | w2
                     · exfalso; omega
                     · exact w2.2 h9.2)
          · refine And.intro (zA_154 hS) (zrdR (v := some 164) (zR_154_12 hR) ?_)
            refine And.intro (zP_164 hS (by omega) (by omega)) (fun v123 e123 r123 => ?_)
            have b129 : (zand m 255) = m % 256 := zand255 _
            refine And.intro ⟨(zx0 rfl), (zP_164 hS (by omega) (by omega))⟩ ⟨_, (zWi zr_xor), ?_⟩
            refine And.intro (zA_154 hS) ⟨_, sn_A_isCheck.up (by decide), ?_⟩
            refine ⟨(ckC (n a.toNat) k.toNat), cn, (ckP (ckB (t a.toNat) (n a.toNat) a.toNat k.toNat) q m), rfl, hS, hR, ((p94bbfr 154 0 (by omega) (by omega)).trans ((fr 154 0 (by omega) (by omega)).trans hc)), hcn, (((zxu (by omega) rfl)).trans (p94hp.trans (by omega))), (by omega), (fun j hj => ⟨by
  first
  | (refine (g94 j hj).trans ?_
     unfold ckP
     rw [if_neg (by omega)])
  | (unfold ckP
     by_cases h : (j : Int) = q
     · rw [if_pos h, show j = q.toNat by omega, zxe, e123, g94 _ (by omega)]
     · rw [if_neg h]
       exact zxs (by omega) (g94 j hj)), g94bb j⟩), ?_⟩
            intro v133o p133hv
            refine And.intro (by omega) ⟨fun h136 => ?_, fun h136 => ?_⟩
            · refine hQ _ _ ?_ (fun c j h0 h1 h2 h3 h4 h5 h6 => (zxu h4 ((p94bbfr c j (by omega) (by omega)).trans ((fr c j (by omega) (by omega)).trans rfl))))
              · first
                | exact Or.inl ⟨by omega, rfl⟩
                | (refine Or.inr ⟨by omega, Or.inl ⟨rfl, ?_⟩⟩
                   rcases p133hv with w | w
                   · rcases p140hv with w2 | w2
                     · exact ⟨w.2, w2.2⟩
                     · exfalso; omega
                   · exfalso; omega)
                | (refine Or.inr ⟨by omega, Or.inr ⟨rfl, fun h9 => ?_⟩⟩
                   rcases p133hv with w | w
                   · exfalso; omega
                   · exact w.2 h9.1)
                | (refine Or.inr ⟨by omega, Or.inr ⟨rfl, fun h9 => ?_⟩⟩
                   rcases p140hv with w2 | w2
                   · exfalso; omega
                   · exact w2.2 h9.2)
            · refine And.intro (zA_154 hS) ⟨_, sn_A_proves.up (by decide), ?_⟩
              refine ⟨(ckC (n a.toNat) k.toNat), cn, t, n, (ckP (ckB (t a.toNat) (n a.toNat) a.toNat k.toNat) q m), ((ckP (ckB (t a.toNat) (n a.toNat) a.toNat k.toNat) q m) 3).toNat, ((ckP (ckB (t a.toNat) (n a.toNat) a.toNat k.toNat) q m) (4 + ((ckP (ckB (t a.toNat) (n a.toNat) a.toNat k.toNat) q m) 3).toNat)).toNat, rfl, hS, hR, (zStf hT (fun c j h1 h2 => ⟨(zxu (by omega) ((p94bbfr c j (by omega) (by omega)).trans ((fr c j (by omega) (by omega)).trans rfl))), rfl⟩)), (zRA_fr hRA (fun c j h => ((zxu (by omega) rfl)).trans ((p94bbfr c j (by omega) (by omega)).trans (fr c j (by omega) (by omega))))), (((zxu (by omega) rfl)).trans (p94hp.trans (by omega))), (by omega), (fun j hj => ⟨by
  first
  | (refine (g94 j hj).trans ?_
     unfold ckP
     rw [if_neg (by omega)])
  | (unfold ckP
     by_cases h : (j : Int) = q
     · rw [if_pos h, show j = q.toNat by omega, zxe, e123, g94 _ (by omega)]
     · rw [if_neg h]
       exact zxs (by omega) (g94 j hj)), g94bb j⟩), (by
  rcases p133hv with w | w
  · have := w.2
    have h9 := g94bb 3
    unfold ckF at this
    omega
  · exfalso
    omega), (by
  rcases p133hv with w | w
  · have := w.2
    have h9 := g94bb 3
    have h8 := g94bb (4 + ((ckP (ckB (t a.toNat) (n a.toNat) a.toNat k.toNat) q m) 3).toNat)
    unfold ckF at this
    omega
  · exfalso
    omega), (by
  rcases p133hv with w | w
  · exact w.2.1
  · exfalso
    omega), ?_⟩
              intro v140o I140o p140hv p140bfr
              refine And.intro (by omega) ⟨fun h143 => ?_, fun h143 => ?_⟩
              · refine hQ _ _ ?_ (fun c j h0 h1 h2 h3 h4 h5 h6 => ((p140bfr c j (by omega) (by omega) (by omega) (by omega) (by omega)).trans (zxu h4 ((p94bbfr c j (by omega) (by omega)).trans ((fr c j (by omega) (by omega)).trans rfl)))))
                · first
                  | exact Or.inl ⟨by omega, rfl⟩
                  | (refine Or.inr ⟨by omega, Or.inl ⟨rfl, ?_⟩⟩
                     rcases p133hv with w | w
                     · rcases p140hv with w2 | w2
                       · exact ⟨w.2, w2.2⟩
                       · exfalso; omega
                     · exfalso; omega)
                  | (refine Or.inr ⟨by omega, Or.inr ⟨rfl, fun h9 => ?_⟩⟩
                     rcases p133hv with w | w
                     · exfalso; omega
                     · exact w.2 h9.1)
                  | (refine Or.inr ⟨by omega, Or.inr ⟨rfl, fun h9 => ?_⟩⟩
                     rcases p140hv with w2 | w2
                     · exfalso; omega
                     · exact w2.2 h9.2)
              · refine hQ _ _ ?_ (fun c j h0 h1 h2 h3 h4 h5 h6 => ((p140bfr c j (by omega) (by omega) (by omega) (by omega) (by omega)).trans (zxu h4 ((p94bbfr c j (by omega) (by omega)).trans ((fr c j (by omega) (by omega)).trans rfl)))))
                · first
                  | exact Or.inl ⟨by omega, rfl⟩
                  | (refine Or.inr ⟨by omega, Or.inl ⟨rfl, ?_⟩⟩
                     rcases p133hv with w | w
                     · rcases p140hv with w2 | w2
                       · exact ⟨w.2, w2.2⟩
                       · exfalso; omega
                     · exfalso; omega)
                  | (refine Or.inr ⟨by omega, Or.inr ⟨rfl, fun h9 => ?_⟩⟩
                     rcases p133hv with w | w
                     · exfalso; omega
                     · exact w.2 h9.1)
                  | (refine Or.inr ⟨by omega, Or.inr ⟨rfl, fun h9 => ?_⟩⟩
                     rcases p140hv with w2 | w2
                     · exfalso; omega
                     · exact w2.2 h9.2)
        · refine hQ _ _ ?_ (fun c j h0 h1 h2 h3 h4 h5 h6 => ((p94bbfr c j (by omega) (by omega)).trans ((fr c j (by omega) (by omega)).trans rfl)))
          · first
            | exact Or.inl ⟨by omega, rfl⟩
            | (refine Or.inr ⟨by omega, Or.inl ⟨rfl, ?_⟩⟩
               rcases p133hv with w | w
               · rcases p140hv with w2 | w2
                 · exact ⟨w.2, w2.2⟩
                 · exfalso; omega
               · exfalso; omega)
            | (refine Or.inr ⟨by omega, Or.inr ⟨rfl, fun h9 => ?_⟩⟩
               rcases p133hv with w | w
               · exfalso; omega
               · exact w.2 h9.1)
            | (refine Or.inr ⟨by omega, Or.inr ⟨rfl, fun h9 => ?_⟩⟩
               rcases p140hv with w2 | w2
               · exfalso; omega
               · exact w2.2 h9.2)
    · refine And.intro (zA_154 hS) (zrdR (v := some 155) (zR_154_1 hR) ?_)
      refine And.intro (zP_155 hS (by omega) (by omega)) (fun v81 e81 r81 => ?_)
      have f81 : v81 = t a.toNat (64 * k.toNat + i.toNat) := (by obtain ⟨w1, w2, w3⟩ := hq.2.1 (64 * k.toNat + i.toNat) (by omega); rw [e81, fr _ _ (by omega) (by omega), show (a * 512 + k * 64 + i).toNat = 512 * a.toNat + (64 * k.toNat + i.toNat) by omega]; exact w1)
      refine And.intro (zA_154 hS) (Exists.intro _ (And.intro (zinl_ok (zT5_12 4)) (And.intro rfl ?_)))
      refine And.intro (zA_154 hS) (zrd (v := (4 + i)) hp ?_)
      refine And.intro ⟨(by omega), (zRb rfl)⟩ ⟨(fun h7_82 => False.elim (by omega)), fun h7_82 => ?_⟩
      refine And.intro (zA_154 hS) (zrdR (v := some 164) (zR_154_12 hR) ?_)
      refine And.intro (zA_154 hS) (zrd (v := (4 + i)) hp ?_)
      refine And.intro ⟨(zx0 rfl), (zP_164 hS (by omega) (by omega))⟩ ⟨_, (zWi r81), ?_⟩
      refine And.intro (zA_154 hS) (zrd (v := (4 + i)) hp ?_)
      refine And.intro (zA_154 hS) ⟨_, (zWi (by omega)), ?_⟩
      refine ⟨((65 - (i + 1)).toNat, 0, 0), zlt6 (by omega), [some (zvr (154)), some (zvi (a)), some (zvi (k)), some (zvi (q)), some (zvi (m)), some (zvi ((i + 1)))], ⟨rfl, rfl, rfl, rfl, rfl, rfl, rfl⟩, (i + 1), rfl, rfl, rfl, rfl, rfl, rfl, (by omega), (by omega), (by omega), (Eq.trans (b := (((4 + i) + 1) : Int)) rfl (by omega)), ?_, (fun c j h0 h1 => (zxcj h1 (zxu h0 ((fr c j (by omega) (by omega)).trans rfl))))⟩
      · intro j hj
        by_cases h : (j : Int) = 4 + i
        · rw [show j = (4 + i).toNat by omega]
          refine (zxu (by decide) zxe).trans ?_
          rw [f81]
          unfold ckB
          rw [if_neg (by omega), if_neg (by omega), if_neg (by omega), if_neg (by omega), if_pos (by omega)]
          congr 1
          omega
        · exact zxu (by decide) (zxs (by omega) (hb j (by omega))))
