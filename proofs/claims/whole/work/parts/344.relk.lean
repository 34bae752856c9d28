/-! relk -/
def T_B_holds : ZT := fun args I L R S Q => ∃ (bc : Nat) (cn : Nat) (t : Nat → Nat → Int) (n : Nat → Nat) (b : Nat → Int), args = [zvr 280] ∧ (zSh S) ∧ (zRs R) ∧ (zRB cn t n I) ∧ (I 280 17 = bc) ∧ (5 ≤ bc ∧ bc ≤ 201) ∧ (∀ i : Nat, i < bc → I 294 i = b i ∧ 0 ≤ b i ∧ b i ≤ 255) ∧ ∀ (v : Int) (I' : ZI), ((v = 1 ∧ ckH cn t n b bc) ∨ (v = 0 ∧ ¬ ckH cn t n b bc)) → (I' 280 2 = 0) → (∀ c j : Nat, ¬ c = 282 → ¬ c = 283 → ¬ c = 284 → ¬ c = 285 → ¬ c = 286 → ¬ (c = 280 ∧ j = 2) → ¬ c = 293 → I' c j = I c j) → Q (some (zvi (v))) I' L R S
theorem sn_B_holds : ZSnd 4 19 13 T_B_holds := ZSnd.loops (zT19_13 3) (by
  rintro args I L R S Q hz ⟨bc, cn, t, n, b, rfl, hS, hR, hRB, hbc, h0, hb, hQ⟩
  obtain ⟨hc, hcn, hz, hK, hr⟩ := id hRB
  have b0 := hb 0 (by omega)
  have b1 := hb 1 (by omega)
  have b2 := hb 2 (by omega)
  have b3 := hb 3 (by omega)
  refine ⟨[97, 126, 156, 245, 280], fun nM tM lsM stM I1 L1 R1 S1 => match tM with
      | 97 => ∃ (l : Nat) (z : Nat) (x : Int), nM = (4, (64 - x).toNat, 0) ∧ lsM = [some (zvr (280)), some (zvi (l)), some (zvi (x)), none, none] ∧ stM = [] ∧ L1 = L ∧ R1 = R ∧ S1 = S ∧ (b 3 = l ∧ l ≤ 64) ∧ (b (4 + l) = z ∧ bc = 5 + l + 33 * z) ∧ (b 0 < cn) ∧ (0 ≤ x ∧ x ≤ l) ∧ (I1 280 2 = 3 + x) ∧ (∀ j : Nat, (j : Int) < 3 + x → I1 282 j = ckM b j) ∧ (∀ c j : Nat, ¬ c = 282 → ¬ c = 283 → ¬ c = 284 → ¬ c = 285 → ¬ c = 286 → ¬ (c = 280 ∧ j = 2) → ¬ c = 293 → I1 c j = I c j)
      | 126 => ∃ (l : Nat) (z : Nat) (x : Int), nM = (3, (64 - x).toNat, 0) ∧ lsM = [some (zvr (280)), some (zvi (l)), some (zvi (x)), none, none] ∧ stM = [] ∧ L1 = L ∧ R1 = R ∧ S1 = S ∧ (b 3 = l ∧ l ≤ 64) ∧ (b (4 + l) = z ∧ bc = 5 + l + 33 * z) ∧ (b 0 < cn) ∧ (0 ≤ x ∧ x ≤ 32) ∧ (I1 280 2 = 0) ∧ (∀ j : Nat, j < 32 → I1 286 j = ckD b l 0 j) ∧ (∀ j : Nat, (j : Int) < x → I1 293 j = ckD b l 0 j) ∧ (∀ c j : Nat, ¬ c = 282 → ¬ c = 283 → ¬ c = 284 → ¬ c = 285 → ¬ c = 286 → ¬ (c = 280 ∧ j = 2) → ¬ c = 293 → I1 c j = I c j)
      | 156 => ∃ (l : Nat) (z : Nat) (u : Int) (s : Nat), nM = (2, (z - s), 40) ∧ lsM = [some (zvr (280)), some (zvi (l)), some (zvi (u)), some (zvi (5 + l + 33 * s)), none] ∧ stM = [] ∧ L1 = L ∧ R1 = R ∧ S1 = S ∧ (b 3 = l ∧ l ≤ 64) ∧ (b (4 + l) = z ∧ bc = 5 + l + 33 * z) ∧ (b 0 < cn) ∧ (s ≤ z) ∧ (u = 0 ∨ u = 1) ∧ (u = 1 → ∀ k : Nat, k < s → b (5 + l + 33 * k) ≤ 1) ∧ (u = 0 → ¬ ckF cn b bc) ∧ (I1 280 2 = 0) ∧ (∀ j : Nat, j < 32 → I1 293 j = ckD b l s j) ∧ (∀ c j : Nat, ¬ c = 282 → ¬ c = 283 → ¬ c = 284 → ¬ c = 285 → ¬ c = 286 → ¬ (c = 280 ∧ j = 2) → ¬ c = 293 → I1 c j = I c j)
      | 245 => ∃ (l : Nat) (z : Nat) (u : Int) (s : Nat) (x : Int), nM = (2, (z - s), (32 - x).toNat) ∧ lsM = [some (zvr (280)), some (zvi (l)), some (zvi (u)), some (zvi (5 + l + 33 * s)), some (zvi (x))] ∧ stM = [] ∧ L1 = L ∧ R1 = R ∧ S1 = S ∧ (b 3 = l ∧ l ≤ 64) ∧ (b (4 + l) = z ∧ bc = 5 + l + 33 * z) ∧ (b 0 < cn) ∧ (s < z) ∧ (u = 0 ∨ u = 1) ∧ (u = 1 → ∀ k : Nat, k < s + 1 → b (5 + l + 33 * k) ≤ 1) ∧ (u = 0 → ¬ ckF cn b bc) ∧ (I1 280 2 = 0) ∧ (0 ≤ x ∧ x ≤ 32) ∧ (∀ j : Nat, j < 32 → I1 286 j = ckD b l (s + 1) j) ∧ (∀ j : Nat, (j : Int) < x → I1 293 j = ckD b l (s + 1) j) ∧ (∀ c j : Nat, ¬ c = 282 → ¬ c = 283 → ¬ c = 284 → ¬ c = 285 → ¬ c = 286 → ¬ (c = 280 ∧ j = 2) → ¬ c = 293 → I1 c j = I c j)
      | 280 => ∃ (l : Nat) (z : Nat) (u : Int) (x : Int), nM = (1, (32 - x).toNat, 0) ∧ lsM = [some (zvr (280)), none, some (zvi (u)), some (zvi (x)), none] ∧ stM = [] ∧ L1 = L ∧ R1 = R ∧ S1 = S ∧ (b 3 = l ∧ l ≤ 64) ∧ (b (4 + l) = z ∧ bc = 5 + l + 33 * z) ∧ (b 0 < cn) ∧ (u = 0 ∨ u = 1) ∧ (0 ≤ x ∧ x ≤ 32) ∧ (u = 1 → ckF cn b bc ∧ ∀ k : Nat, (k : Int) < x → ckD b l z k = rD (t (b 0).toNat) (n (b 0).toNat) (rT (n (b 0).toNat)) 0 k) ∧ (u = 0 → ¬ ckH cn t n b bc) ∧ (I1 280 2 = 0) ∧ (u = 1 → ∀ j : Nat, j < 32 → I1 293 j = ckD b l z j) ∧ (∀ c j : Nat, ¬ c = 282 → ¬ c = 283 → ¬ c = 284 → ¬ c = 285 → ¬ c = 286 → ¬ (c = 280 ∧ j = 2) → ¬ c = 293 → I1 c j = I c j)
      | _ => False, rfl, ?_, ⟨?_, ?_, ?_, ?_, ?_, True.intro⟩⟩
  · refine And.intro (zA_280 hS) (zrd (v := bc) hbc ?_)
    refine And.intro ⟨(by omega), (zRb rfl)⟩ ⟨(fun h5 => False.elim (by omega)), fun h5 => ?_⟩
    refine And.intro (zA_280 hS) (zrdR (v := some 294) (zR_280_18 hR) ?_)
    refine And.intro (zP_294 hS (by omega) (by omega)) (fun v14 e14 r14 => ?_)
    have f14 : v14 = b 0 := (e14.trans b0.1)
    have f14b : 0 ≤ v14 ∧ v14 ≤ 255 := (by omega)
    refine And.intro (zA_280 hS) (Exists.intro _ (And.intro (zinl_ok (zT19_18 2)) (And.intro rfl ?_)))
    refine And.intro r14 ⟨(fun h1_15 => False.elim (by omega)), fun h1_15 => ?_⟩
    refine And.intro (zA_280 hS) (zrd (v := cn) hc ?_)
    refine And.intro ⟨r14, (by omega)⟩ ⟨fun h9_15 => ?_, fun h9_15 => ?_⟩
    · refine And.intro (Or.inl rfl) ?_
      refine And.intro (zRb rfl) (zbf rfl ?_)
      refine And.intro (Or.inl rfl) ?_
      refine hQ _ _ ?_ hz (fun c j h0 h1 h2 h3 h4 h5 h6 => rfl)
      · first
        | (refine Or.inr ⟨rfl, fun h9 => ?_⟩
           obtain ⟨⟨q1, q2, q3, q4, -⟩, -⟩ := h9
           omega)
        | (have e3 : (b 3).toNat = l := by omega
           have e4 : (b (4 + l)).toNat = z := by omega
           rcases hu0 with e | e
           · exact Or.inr ⟨e, hu2 e⟩
           · exact Or.inl ⟨e, (hu1 e).1, fun i hi => by rw [e3, e4]; exact (hu1 e).2 i (by omega)⟩)
    · refine And.intro (Or.inr rfl) ?_
      refine And.intro (zRb rfl) (zbt rfl ?_)
      refine And.intro (zA_280 hS) (zrdR (v := some 294) (zR_280_18 hR) ?_)
      refine And.intro (zP_294 hS (by omega) (by omega)) (fun v28 e28 r28 => ?_)
      have f28 : v28 = b 3 := (e28.trans b3.1)
      have f28b : 0 ≤ v28 ∧ v28 ≤ 255 := (by omega)
      refine And.intro ⟨r28, (zRb rfl)⟩ ⟨fun h33 => ?_, fun h33 => ?_⟩
      · refine And.intro (Or.inl rfl) ?_
        refine hQ _ _ ?_ hz (fun c j h0 h1 h2 h3 h4 h5 h6 => rfl)
        · first
          | (refine Or.inr ⟨rfl, fun h9 => ?_⟩
             obtain ⟨⟨q1, q2, q3, q4, -⟩, -⟩ := h9
             omega)
          | (have e3 : (b 3).toNat = l := by omega
             have e4 : (b (4 + l)).toNat = z := by omega
             rcases hu0 with e | e
             · exact Or.inr ⟨e, hu2 e⟩
             · exact Or.inl ⟨e, (hu1 e).1, fun i hi => by rw [e3, e4]; exact (hu1 e).2 i (by omega)⟩)
      · refine And.intro (zA_280 hS) (zrd (v := bc) hbc ?_)
        refine And.intro ⟨(by omega), (by omega)⟩ ⟨fun h43 => ?_, fun h43 => ?_⟩
        · refine And.intro (Or.inl rfl) ?_
          refine hQ _ _ ?_ hz (fun c j h0 h1 h2 h3 h4 h5 h6 => rfl)
          · first
            | (refine Or.inr ⟨rfl, fun h9 => ?_⟩
               obtain ⟨⟨q1, q2, q3, q4, -⟩, -⟩ := h9
               omega)
            | (have e3 : (b 3).toNat = l := by omega
               have e4 : (b (4 + l)).toNat = z := by omega
               rcases hu0 with e | e
               · exact Or.inr ⟨e, hu2 e⟩
               · exact Or.inl ⟨e, (hu1 e).1, fun i hi => by rw [e3, e4]; exact (hu1 e).2 i (by omega)⟩)
        · refine And.intro (zA_280 hS) (zrd (v := bc) hbc ?_)
          refine And.intro (zA_280 hS) (zrdR (v := some 294) (zR_280_18 hR) ?_)
          refine And.intro (zP_294 hS (by omega) (by omega)) (fun v62 e62 r62 => ?_)
          have f62 : v62 = b (4 + (b 3).toNat) := (e62.trans ((congrArg (I 294) (by omega)).trans (hb (4 + (b 3).toNat) (by omega)).1))
          have f62b : 0 ≤ v62 ∧ v62 ≤ 255 := (by have w := (hb (4 + (b 3).toNat) (by omega)).2; omega)
          refine And.intro ⟨(by omega), (by omega)⟩ ⟨fun h65 => ?_, fun h65 => ?_⟩
          · refine And.intro (zA_280 hS) (Exists.intro _ (And.intro (zinl_ok (zT19_25 2)) (And.intro rfl ?_)))
            refine And.intro (zA_280 hS) (zrdR (v := some 282) (zR_280_3 hR) ?_)
            refine And.intro (zA_280 hS) (zrd (v := 0) hz ?_)
            refine And.intro ⟨(zx0 rfl), (zP_282 hS (by omega) (by omega))⟩ ⟨_, (zWi (zRb rfl)), ?_⟩
            refine And.intro (zA_280 hS) (zrd (v := 0) hz ?_)
            refine And.intro (zA_280 hS) ⟨_, (zWi (zRb rfl)), ?_⟩
            refine And.intro (zA_280 hS) (zrdR (v := some 294) (zR_280_18 hR) ?_)
            refine And.intro (zP_294 hS (by omega) (by omega)) (fun v81 e81 r81 => ?_)
            have f81 : v81 = b 1 := (e81.trans b1.1)
            have f81b : 0 ≤ v81 ∧ v81 ≤ 255 := (by omega)
            refine And.intro (zA_280 hS) (Exists.intro _ (And.intro (zinl_ok (zT19_25 2)) (And.intro rfl ?_)))
            refine And.intro (zA_280 hS) (zrdR (v := some 282) (zR_280_3 hR) ?_)
            refine And.intro (zA_280 hS) (zrd (v := (0 + 1)) rfl ?_)
            refine And.intro ⟨(zx0 rfl), (zP_282 hS (by omega) (by omega))⟩ ⟨_, (zWi r81), ?_⟩
            refine And.intro (zA_280 hS) (zrd (v := (0 + 1)) rfl ?_)
            refine And.intro (zA_280 hS) ⟨_, (zWi (zRb rfl)), ?_⟩
            refine And.intro (zA_280 hS) (zrdR (v := some 294) (zR_280_18 hR) ?_)
            refine And.intro (zP_294 hS (by omega) (by omega)) (fun v91 e91 r91 => ?_)
            have f91 : v91 = b 2 := (e91.trans b2.1)
            have f91b : 0 ≤ v91 ∧ v91 ≤ 255 := (by omega)
            refine And.intro (zA_280 hS) (Exists.intro _ (And.intro (zinl_ok (zT19_25 2)) (And.intro rfl ?_)))
            refine And.intro (zA_280 hS) (zrdR (v := some 282) (zR_280_3 hR) ?_)
            refine And.intro (zA_280 hS) (zrd (v := ((0 + 1) + 1)) rfl ?_)
            refine And.intro ⟨(zx0 rfl), (zP_282 hS (by omega) (by omega))⟩ ⟨_, (zWi r91), ?_⟩
            refine And.intro (zA_280 hS) (zrd (v := ((0 + 1) + 1)) rfl ?_)
            refine And.intro (zA_280 hS) ⟨_, (zWi (zRb rfl)), ?_⟩
            refine ⟨(4, (64 - (0 : Int)).toNat, 0), [some (zvr (280)), some (zvi ((b 3).toNat)), some (zvi ((0 : Int))), none, none], ⟨rfl, (congrArg (fun z => some (zvi z)) (by omega)), rfl, rfl⟩, (b 3).toNat, (b (4 + (b 3).toNat)).toNat, 0, rfl, rfl, rfl, rfl, rfl, rfl, ⟨by omega, by omega⟩, ⟨by omega, by omega⟩, (by omega), (by omega), (Eq.trans (b := ((((0 + 1) + 1) + 1) : Int)) rfl (by omega)), ?_, (fun c j h0 h1 h2 h3 h4 h5 h6 => (zxcj h5 (zxu h0 (zxcj h5 (zxu h0 (zxcj h5 (zxu h0 rfl)))))))⟩
            · intro j hj
              have z9 : j = 0 ∨ j = 1 ∨ j = 2 := by omega
              rcases z9 with rfl | rfl | rfl
              · rfl
              · exact (show v81 = b 1 from f81)
              · exact (show v91 = b 2 from f91)
          · refine And.intro (Or.inl rfl) ?_
            refine hQ _ _ ?_ hz (fun c j h0 h1 h2 h3 h4 h5 h6 => rfl)
            · first
              | (refine Or.inr ⟨rfl, fun h9 => ?_⟩
                 obtain ⟨⟨q1, q2, q3, q4, -⟩, -⟩ := h9
                 omega)
              | (have e3 : (b 3).toNat = l := by omega
                 have e4 : (b (4 + l)).toNat = z := by omega
                 rcases hu0 with e | e
                 · exact Or.inr ⟨e, hu2 e⟩
                 · exact Or.inl ⟨e, (hu1 e).1, fun i hi => by rw [e3, e4]; exact (hu1 e).2 i (by omega)⟩)
  · rintro nM lsM stM I1 L1 R1 S1 hz1 ⟨l, z, x, rfl, rfl, rfl, rfl, rfl, rfl, hl, hz0, h1, hx, hs1, hm1, fr⟩
    refine And.intro ⟨(by omega), (by omega)⟩ ⟨fun h99 => ?_, fun h99 => ?_⟩
    · refine And.intro (zA_280 hS) ⟨_, sn_B_dig.up (by decide), ?_⟩
      refine ⟨((3 + x) : Int), (ckM b), rfl, hS, hR, (fun j hj => (fr 281 _ (by omega) (by omega) (by omega) (by omega) (by omega) (by omega) (by omega)).trans (hK j hj)), hs1, (by omega), (fun j hj => hm1 j hj), ?_⟩
      intro I121o p121hz p121bhd p121bbfr
      refine ⟨(3, (64 - (0 : Int)).toNat, 0), zlt6 (by omega), [some (zvr (280)), some (zvi (l)), some (zvi ((0 : Int))), none, none], ⟨rfl, rfl, rfl, rfl⟩, l, z, 0, rfl, rfl, rfl, rfl, rfl, rfl, (by omega), (by omega), (by omega), (by omega), p121hz, ?_, (fun j h => absurd h (by omega)), (fun c j h0 h1 h2 h3 h4 h5 h6 => ((p121bbfr c j (by omega) (by omega) (by omega) (by omega) (by omega) (by omega)).trans ((fr c j (by omega) (by omega) (by omega) (by omega) (by omega) (by omega) (by omega)).trans rfl)))⟩
      · intro j hj
        refine (p121bhd j hj).trans ?_
        show _ = shD (ckM b) (3 + l) j
        rw [show (3 + x).toNat = 3 + l by omega]
    · refine And.intro (zA_280 hS) (zrdR (v := some 294) (zR_280_18 hR) ?_)
      refine And.intro (zP_294 hS (by omega) (by omega)) (fun v110 e110 r110 => ?_)
      have f110 : v110 = b (4 + x).toNat := (e110.trans ((congrArg (I1 294) (by omega)).trans ((fr 294 _ (by omega) (by omega) (by omega) (by omega) (by omega) (by omega) (by omega)).trans (hb (4 + x).toNat (by omega)).1)))
      refine And.intro (zA_280 hS) (Exists.intro _ (And.intro (zinl_ok (zT19_25 2)) (And.intro rfl ?_)))
      refine And.intro (zA_280 hS) (zrdR (v := some 282) (zR_280_3 hR) ?_)
      refine And.intro (zA_280 hS) (zrd (v := (3 + x)) hs1 ?_)
      refine And.intro ⟨(zx0 rfl), (zP_282 hS (by omega) (by omega))⟩ ⟨_, (zWi r110), ?_⟩
      refine And.intro (zA_280 hS) (zrd (v := (3 + x)) hs1 ?_)
      refine And.intro (zA_280 hS) ⟨_, (zWi (by omega)), ?_⟩
      refine ⟨(4, (64 - (x + 1)).toNat, 0), zlt6 (by omega), [some (zvr (280)), some (zvi (l)), some (zvi ((x + 1))), none, none], ⟨rfl, rfl, rfl, rfl⟩, l, z, (x + 1), rfl, rfl, rfl, rfl, rfl, rfl, (by omega), (by omega), (by omega), (by omega), (Eq.trans (b := (((3 + x) + 1) : Int)) rfl (by omega)), ?_, (fun c j h0 h1 h2 h3 h4 h5 h6 => (zxcj h5 (zxu h0 ((fr c j (by omega) (by omega) (by omega) (by omega) (by omega) (by omega) (by omega)).trans rfl))))⟩
      · intro j hj
        refine zxu (by decide) ?_
        by_cases h : (j : Int) = 3 + x
        · rw [show j = (3 + x).toNat by omega]
          refine zxe.trans (f110.trans ?_)
          unfold ckM
          rw [if_neg (by omega), if_neg (by omega), show (3 + x).toNat + 1 = (4 + x).toNat by omega]
        · exact zxs (by omega) (hm1 j (by omega))
  · rintro nM lsM stM I1 L1 R1 S1 hz1 ⟨l, z, x, rfl, rfl, rfl, rfl, rfl, rfl, hl, hz0, h1, hx, hs1, hO, hR1, fr⟩
    refine And.intro ⟨(by omega), (zRb rfl)⟩ ⟨fun h129 => ?_, fun h129 => ?_⟩
    · refine ⟨(2, (z - (0 : Nat)), 40), zlt6 (by omega), [some (zvr (280)), some (zvi (l)), some (zvi ((1 : Int))), some (zvi (5 + l + 33 * (0 : Nat))), none], ⟨rfl, rfl, rfl, (congrArg (fun z => some (zvi z)) (by omega)), rfl⟩, l, z, 1, 0, rfl, rfl, rfl, rfl, rfl, rfl, (by omega), (by omega), (by omega), (by omega), (Or.inr rfl), (fun _ k h => absurd h (Nat.not_lt_zero k)), (fun h => absurd h (by decide)), hs1, (fun j hj => hR1 j (by omega)), (fun c j h0 h1 h2 h3 h4 h5 h6 => ((fr c j (by omega) (by omega) (by omega) (by omega) (by omega) (by omega) (by omega)).trans rfl))⟩
    · refine And.intro (zA_280 hS) (zrdR (v := some 293) (zR_280_16 hR) ?_)
      refine And.intro (zA_280 hS) (zrdR (v := some 286) (zR_280_7 hR) ?_)
      refine And.intro (zP_286 hS (by omega) (by omega)) (fun v142 e142 r142 => ?_)
      refine And.intro ⟨(zx0 rfl), (zP_293 hS (by omega) (by omega))⟩ ⟨_, (zWi r142), ?_⟩
      refine ⟨(3, (64 - (x + 1)).toNat, 0), zlt6 (by omega), [some (zvr (280)), some (zvi (l)), some (zvi ((x + 1))), none, none], ⟨rfl, rfl, rfl, rfl⟩, l, z, (x + 1), rfl, rfl, rfl, rfl, rfl, rfl, (by omega), (by omega), (by omega), (by omega), hs1, (by first | exact hO | exact (fun j h1 => (zxu (by omega) rfl).trans (hO j h1)) | (clear hQ; grind [xu])), ?_, (fun c j h0 h1 h2 h3 h4 h5 h6 => (zxu h6 ((fr c j (by omega) (by omega) (by omega) (by omega) (by omega) (by omega) (by omega)).trans rfl)))⟩
      · intro j hj
        by_cases h : (j : Int) = x
        · rw [show j = x.toNat by omega]
          exact zxe.trans (e142.trans (hO x.toNat (by omega)))
        · exact zxs (by omega) (hR1 j (by omega))
  · rintro nM lsM stM I1 L1 R1 S1 hz1 ⟨l, z, u, s, rfl, rfl, rfl, rfl, rfl, rfl, hl, hz0, h1, hsz, hu0, hu1, hu2, hs1, hR1, fr⟩
    refine And.intro (zA_280 hS) (zrd (v := bc) ((fr 280 17 (by omega) (by omega) (by omega) (by omega) (by omega) (by omega) (by omega)).trans hbc) ?_)
    refine And.intro ⟨(by omega), (by omega)⟩ ⟨fun h161 => ?_, fun h161 => ?_⟩
    · refine ⟨(1, (32 - (0 : Int)).toNat, 0), zlt6 (by omega), [some (zvr (280)), none, some (zvi (u)), some (zvi ((0 : Int))), none], ⟨rfl, rfl, rfl, rfl⟩, l, z, u, 0, rfl, rfl, rfl, rfl, rfl, rfl, (by omega), (by omega), (by omega), (by first | exact hu0 | (clear hQ; grind [xu])), (by omega), ?_, (fun h h9 => hu2 h h9.1), hs1, (fun h j hj => by obtain rfl : s = z := (by omega); exact hR1 j hj), (fun c j h0 h1 h2 h3 h4 h5 h6 => ((fr c j (by omega) (by omega) (by omega) (by omega) (by omega) (by omega) (by omega)).trans rfl))⟩
      · intro h
        have e3 : (b 3).toNat = l := by omega
        refine ⟨⟨h1, by omega, by omega, by rw [e3]; omega, fun k hk => ?_⟩, fun k hk => absurd hk (by omega)⟩
        rw [e3] at hk ⊢
        exact hu1 h k (by omega)
    · refine And.intro (by omega) ⟨fun h165 => ?_, fun h165 => ?_⟩
      · refine ⟨(1, (32 - (0 : Int)).toNat, 0), zlt6 (by omega), [some (zvr (280)), none, some (zvi (u)), some (zvi ((0 : Int))), none], ⟨rfl, rfl, rfl, rfl⟩, l, z, u, 0, rfl, rfl, rfl, rfl, rfl, rfl, (by omega), (by omega), (by omega), (by first | exact hu0 | (clear hQ; grind [xu])), (by omega), ?_, (fun h h9 => hu2 h h9.1), hs1, (fun h j hj => by obtain rfl : s = z := (by omega); exact hR1 j hj), (fun c j h0 h1 h2 h3 h4 h5 h6 => ((fr c j (by omega) (by omega) (by omega) (by omega) (by omega) (by omega) (by omega)).trans rfl))⟩
        · intro h
          have e3 : (b 3).toNat = l := by omega
          refine ⟨⟨h1, by omega, by omega, by rw [e3]; omega, fun k hk => ?_⟩, fun k hk => absurd hk (by omega)⟩
          rw [e3] at hk ⊢
          exact hu1 h k (by omega)
      · refine And.intro (zA_280 hS) (zrdR (v := some 294) (zR_280_18 hR) ?_)
        refine And.intro (zP_294 hS (by omega) (by omega)) (fun v173 e173 r173 => ?_)
        have f173 : v173 = b (5 + l + 33 * s) := (e173.trans ((congrArg (I1 294) (by omega)).trans ((fr 294 _ (by omega) (by omega) (by omega) (by omega) (by omega) (by omega) (by omega)).trans (hb (5 + l + 33 * s) (by omega)).1)))
        refine And.intro ⟨r173, (zRb rfl)⟩ ⟨fun h175 => ?_, fun h175 => ?_⟩
        · refine And.intro (zA_280 hS) (Exists.intro _ (And.intro (zinl_ok (zT19_25 2)) (And.intro rfl ?_)))
          refine And.intro (zA_280 hS) (zrdR (v := some 282) (zR_280_3 hR) ?_)
          refine And.intro (zA_280 hS) (zrd (v := 0) hs1 ?_)
          refine And.intro ⟨(zx0 rfl), (zP_282 hS (by omega) (by omega))⟩ ⟨_, (zWi (zRb rfl)), ?_⟩
          refine And.intro (zA_280 hS) (zrd (v := 0) hs1 ?_)
          refine And.intro (zA_280 hS) ⟨_, (zWi (zRb rfl)), ?_⟩
          refine And.intro (zA_280 hS) (zrdR (v := some 294) (zR_280_18 hR) ?_)
          refine And.intro (zP_294 hS (by omega) (by omega)) (fun v194 e194 r194 => ?_)
          have f194 : v194 = b (5 + l + 33 * s) := (e194.trans ((congrArg (I1 294) (by omega)).trans ((fr 294 _ (by omega) (by omega) (by omega) (by omega) (by omega) (by omega) (by omega)).trans (hb (5 + l + 33 * s) (by omega)).1)))
          refine And.intro r194 ⟨fun h195 => ?_, (fun h195 => False.elim (by omega))⟩
          refine And.intro (zA_280 hS) (zrdR (v := some 293) (zR_280_16 hR) ?_)
          refine And.intro (zA_280 hS) ⟨_, sn_B_putD.up (by decide), ?_⟩
          refine ⟨((0 + 1) : Int), (0 : Int), (ckD b l s), rfl, hS, hR, rfl, (by omega), (fun i hi => (zxu (by omega) (zxu (by omega) rfl)).trans ((congrArg (I1 293) (by omega)).trans (hR1 i hi))), ?_⟩
          intro I215o p215hs2 p215bhd2 p215bbfr
          refine And.intro (zA_280 hS) (zrdR (v := some 294) (zR_280_18 hR) ?_)
          refine And.intro (zP_294 hS (by omega) (by omega)) (fun v223 e223 r223 => ?_)
          have f223 : v223 = b (5 + l + 33 * s) := (e223.trans (((p215bbfr 294 _ (by omega) (by omega)).trans (zxu (by omega) (zxu (by omega) rfl))).trans ((congrArg (I1 294) (by omega)).trans ((fr 294 _ (by omega) (by omega) (by omega) (by omega) (by omega) (by omega) (by omega)).trans (hb (5 + l + 33 * s) (by omega)).1))))
          refine And.intro r223 ⟨(fun h224 => False.elim (by omega)), fun h224 => ?_⟩
          refine And.intro (zA_280 hS) (zrdR (v := some 294) (zR_280_18 hR) ?_)
          refine And.intro (zA_280 hS) ⟨_, sn_B_putC.up (by decide), ?_⟩
          refine ⟨(((0 + 1) + 32) : Int), (((5 + l + 33 * s) + 1) : Int), (fun i => b (6 + l + 33 * s + i)), rfl, hS, hR, p215hs2, (by omega), (fun i hi => (p215bbfr 294 _ (by omega) (by omega)).trans ((congrArg (I1 294) (by omega)).trans ((fr 294 _ (by omega) (by omega) (by omega) (by omega) (by omega) (by omega) (by omega)).trans (hb (6 + l + 33 * s + i) (by omega)).1))), ?_⟩
          intro I235o p235hs2 p235bhd2 p235bbfr
          refine And.intro (zA_280 hS) ⟨_, sn_B_dig.up (by decide), ?_⟩
          refine ⟨((((0 + 1) + 32) + 32) : Int), (if b (5 + l + 33 * s) = 0 then rnM (fun i => b (6 + l + 33 * s + i)) (ckD b l s) else rnM (ckD b l s) (fun i => b (6 + l + 33 * s + i))), rfl, hS, hR, (by first | exact hK | exact (fun j h1 => ((p235bbfr 281 _ (by omega) (by omega)).trans ((p215bbfr 281 _ (by omega) (by omega)).trans (zxu (by omega) (zxu (by omega) ((fr 281 _ (by omega) (by omega) (by omega) (by omega) (by omega) (by omega) (by omega)).trans rfl))))).trans (hK j h1)) | (clear hQ; grind [xu])), p235hs2, (by omega), (fun j hj => by
  first
  | (rw [if_pos (by omega)]
     unfold rnM
     by_cases h1 : j = 0
     · rw [if_pos h1, h1]
       refine (p215bbfr 282 0 (by omega) (by omega)).trans ((p206bbfr 282 0 (by omega) (by omega)).trans ?_)
       exact zxu (by decide) zxe
     · rw [if_neg h1]
       by_cases h2 : j < 33
       · rw [if_pos h2]
         refine (p215bbfr 282 j (by omega) (by omega)).trans ?_
         have := p206bhd2 (j - 1) (by omega)
         rwa [show (0 + 1 : Int).toNat + (j - 1) = j by omega] at this
       · rw [if_neg h2]
         have := p215bhd2 (j - 33) (by omega)
         rwa [show (0 + 1 + 32 : Int).toNat + (j - 33) = j by omega] at this)
  | (rw [if_neg (by omega)]
     unfold rnM
     by_cases h1 : j = 0
     · rw [if_pos h1, h1]
       refine (p235bbfr 282 0 (by omega) (by omega)).trans ((p215bbfr 282 0 (by omega) (by omega)).trans ?_)
       exact zxu (by decide) zxe
     · rw [if_neg h1]
       by_cases h2 : j < 33
       · rw [if_pos h2]
         refine (p235bbfr 282 j (by omega) (by omega)).trans ?_
         have := p215bhd2 (j - 1) (by omega)
         rwa [show (0 + 1 : Int).toNat + (j - 1) = j by omega] at this
       · rw [if_neg h2]
         have := p235bhd2 (j - 33) (by omega)
         rwa [show (0 + 1 + 32 : Int).toNat + (j - 33) = j by omega] at this)), ?_⟩
          intro I239o p239hz p239bhd p239bbfr
          refine ⟨(2, (z - s), (32 - (0 : Int)).toNat), zlt6 (by omega), [some (zvr (280)), some (zvi (l)), some (zvi ((0 : Int))), some (zvi (5 + l + 33 * s)), some (zvi ((0 : Int)))], ⟨rfl, rfl, rfl, rfl, rfl, rfl⟩, l, z, 0, s, 0, rfl, rfl, rfl, rfl, rfl, rfl, (by omega), (by omega), (by omega), (by omega), (by first | exact Or.inl rfl | exact Or.inr rfl), ?_, ?_, p239hz, (by omega), ?_, (fun j h => absurd h (by omega)), (fun c j h0 h1 h2 h3 h4 h5 h6 => ((p239bbfr c j (by omega) (by omega) (by omega) (by omega) (by omega) (by omega)).trans ((p235bbfr c j (by omega) (by omega)).trans ((p215bbfr c j (by omega) (by omega)).trans (zxcj h5 (zxu h0 ((fr c j (by omega) (by omega) (by omega) (by omega) (by omega) (by omega) (by omega)).trans rfl)))))))⟩
          · intro h k hk
            first
            | exact absurd h (by decide)
            | (by_cases e : k = s
               · subst e
                 omega
               · exact hu1 (by omega) k (by omega))
          · intro h h9
            first
            | exact absurd h (by decide)
            | (have e3 : (b 3).toNat = l := by omega
               have q := h9.2.2.2.2 s (by rw [e3]; omega)
               rw [e3] at q
               omega)
          · intro j hj
            exact p239bhd j hj
        · refine And.intro (zA_280 hS) (Exists.intro _ (And.intro (zinl_ok (zT19_25 2)) (And.intro rfl ?_)))
          refine And.intro (zA_280 hS) (zrdR (v := some 282) (zR_280_3 hR) ?_)
          refine And.intro (zA_280 hS) (zrd (v := 0) hs1 ?_)
          refine And.intro ⟨(zx0 rfl), (zP_282 hS (by omega) (by omega))⟩ ⟨_, (zWi (zRb rfl)), ?_⟩
          refine And.intro (zA_280 hS) (zrd (v := 0) hs1 ?_)
          refine And.intro (zA_280 hS) ⟨_, (zWi (zRb rfl)), ?_⟩
          refine And.intro (zA_280 hS) (zrdR (v := some 294) (zR_280_18 hR) ?_)
          refine And.intro (zP_294 hS (by omega) (by omega)) (fun v194 e194 r194 => ?_)
          have f194 : v194 = b (5 + l + 33 * s) := (e194.trans ((congrArg (I1 294) (by omega)).trans ((fr 294 _ (by omega) (by omega) (by omega) (by omega) (by omega) (by omega) (by omega)).trans (hb (5 + l + 33 * s) (by omega)).1)))
          refine And.intro r194 ⟨fun h195 => ?_, fun h195 => ?_⟩
          · refine And.intro (zA_280 hS) (zrdR (v := some 293) (zR_280_16 hR) ?_)
            refine And.intro (zA_280 hS) ⟨_, sn_B_putD.up (by decide), ?_⟩
            refine ⟨((0 + 1) : Int), (0 : Int), (ckD b l s), rfl, hS, hR, rfl, (by omega), (fun i hi => (zxu (by omega) (zxu (by omega) rfl)).trans ((congrArg (I1 293) (by omega)).trans (hR1 i hi))), ?_⟩
            intro I215o p215hs2 p215bhd2 p215bbfr
            refine And.intro (zA_280 hS) (zrdR (v := some 294) (zR_280_18 hR) ?_)
            refine And.intro (zP_294 hS (by omega) (by omega)) (fun v223 e223 r223 => ?_)
            have f223 : v223 = b (5 + l + 33 * s) := (e223.trans (((p215bbfr 294 _ (by omega) (by omega)).trans (zxu (by omega) (zxu (by omega) rfl))).trans ((congrArg (I1 294) (by omega)).trans ((fr 294 _ (by omega) (by omega) (by omega) (by omega) (by omega) (by omega) (by omega)).trans (hb (5 + l + 33 * s) (by omega)).1))))
            refine And.intro r223 ⟨(fun h224 => False.elim (by omega)), fun h224 => ?_⟩
            refine And.intro (zA_280 hS) (zrdR (v := some 294) (zR_280_18 hR) ?_)
            refine And.intro (zA_280 hS) ⟨_, sn_B_putC.up (by decide), ?_⟩
            refine ⟨(((0 + 1) + 32) : Int), (((5 + l + 33 * s) + 1) : Int), (fun i => b (6 + l + 33 * s + i)), rfl, hS, hR, p215hs2, (by omega), (fun i hi => (p215bbfr 294 _ (by omega) (by omega)).trans ((congrArg (I1 294) (by omega)).trans ((fr 294 _ (by omega) (by omega) (by omega) (by omega) (by omega) (by omega) (by omega)).trans (hb (6 + l + 33 * s + i) (by omega)).1))), ?_⟩
            intro I235o p235hs2 p235bhd2 p235bbfr
            refine And.intro (zA_280 hS) ⟨_, sn_B_dig.up (by decide), ?_⟩
            refine ⟨((((0 + 1) + 32) + 32) : Int), (if b (5 + l + 33 * s) = 0 then rnM (fun i => b (6 + l + 33 * s + i)) (ckD b l s) else rnM (ckD b l s) (fun i => b (6 + l + 33 * s + i))), rfl, hS, hR, (by first | exact hK | exact (fun j h1 => ((p235bbfr 281 _ (by omega) (by omega)).trans ((p215bbfr 281 _ (by omega) (by omega)).trans (zxu (by omega) (zxu (by omega) ((fr 281 _ (by omega) (by omega) (by omega) (by omega) (by omega) (by omega) (by omega)).trans rfl))))).trans (hK j h1)) | (clear hQ; grind [xu])), p235hs2, (by omega), (fun j hj => by
  first
  | (rw [if_pos (by omega)]
     unfold rnM
     by_cases h1 : j = 0
     · rw [if_pos h1, h1]
       refine (p215bbfr 282 0 (by omega) (by omega)).trans ((p206bbfr 282 0 (by omega) (by omega)).trans ?_)
       exact zxu (by decide) zxe
     · rw [if_neg h1]
       by_cases h2 : j < 33
       · rw [if_pos h2]
         refine (p215bbfr 282 j (by omega) (by omega)).trans ?_
         have := p206bhd2 (j - 1) (by omega)
         rwa [show (0 + 1 : Int).toNat + (j - 1) = j by omega] at this
       · rw [if_neg h2]
         have := p215bhd2 (j - 33) (by omega)
         rwa [show (0 + 1 + 32 : Int).toNat + (j - 33) = j by omega] at this)
  | (rw [if_neg (by omega)]
     unfold rnM
     by_cases h1 : j = 0
     · rw [if_pos h1, h1]
       refine (p235bbfr 282 0 (by omega) (by omega)).trans ((p215bbfr 282 0 (by omega) (by omega)).trans ?_)
       exact zxu (by decide) zxe
     · rw [if_neg h1]
       by_cases h2 : j < 33
       · rw [if_pos h2]
         refine (p235bbfr 282 j (by omega) (by omega)).trans ?_
         have := p215bhd2 (j - 1) (by omega)
         rwa [show (0 + 1 : Int).toNat + (j - 1) = j by omega] at this
       · rw [if_neg h2]
         have := p235bhd2 (j - 33) (by omega)
         rwa [show (0 + 1 + 32 : Int).toNat + (j - 33) = j by omega] at this)), ?_⟩
            intro I239o p239hz p239bhd p239bbfr
            refine ⟨(2, (z - s), (32 - (0 : Int)).toNat), zlt6 (by omega), [some (zvr (280)), some (zvi (l)), some (zvi ((1 : Int))), some (zvi (5 + l + 33 * s)), some (zvi ((0 : Int)))], ⟨rfl, rfl, rfl, rfl, rfl, rfl⟩, l, z, 1, s, 0, rfl, rfl, rfl, rfl, rfl, rfl, (by omega), (by omega), (by omega), (by omega), (by first | exact Or.inl rfl | exact Or.inr rfl), ?_, ?_, p239hz, (by omega), ?_, (fun j h => absurd h (by omega)), (fun c j h0 h1 h2 h3 h4 h5 h6 => ((p239bbfr c j (by omega) (by omega) (by omega) (by omega) (by omega) (by omega)).trans ((p235bbfr c j (by omega) (by omega)).trans ((p215bbfr c j (by omega) (by omega)).trans (zxcj h5 (zxu h0 ((fr c j (by omega) (by omega) (by omega) (by omega) (by omega) (by omega) (by omega)).trans rfl)))))))⟩
            · intro h k hk
              first
              | exact absurd h (by decide)
              | (by_cases e : k = s
                 · subst e
                   omega
                 · exact hu1 (by omega) k (by omega))
            · intro h h9
              first
              | exact absurd h (by decide)
              | (have e3 : (b 3).toNat = l := by omega
                 have q := h9.2.2.2.2 s (by rw [e3]; omega)
                 rw [e3] at q
                 omega)
            · intro j hj
              exact p239bhd j hj
          · refine And.intro (zA_280 hS) (zrdR (v := some 294) (zR_280_18 hR) ?_)
            refine And.intro (zA_280 hS) ⟨_, sn_B_putC.up (by decide), ?_⟩
            refine ⟨((0 + 1) : Int), (((5 + l + 33 * s) + 1) : Int), (fun i => b (6 + l + 33 * s + i)), rfl, hS, hR, rfl, (by omega), (fun i hi => (congrArg (I1 294) (by omega)).trans ((fr 294 _ (by omega) (by omega) (by omega) (by omega) (by omega) (by omega) (by omega)).trans (hb (6 + l + 33 * s + i) (by omega)).1)), ?_⟩
            intro I206o p206hs2 p206bhd2 p206bbfr
            refine And.intro (zA_280 hS) (zrdR (v := some 293) (zR_280_16 hR) ?_)
            refine And.intro (zA_280 hS) ⟨_, sn_B_putD.up (by decide), ?_⟩
            refine ⟨(((0 + 1) + 32) : Int), (0 : Int), (ckD b l s), rfl, hS, hR, p206hs2, (by omega), (fun i hi => ((p206bbfr 293 _ (by omega) (by omega)).trans (zxu (by omega) (zxu (by omega) rfl))).trans ((congrArg (I1 293) (by omega)).trans (hR1 i hi))), ?_⟩
            intro I215o p215hs2 p215bhd2 p215bbfr
            refine And.intro (zA_280 hS) (zrdR (v := some 294) (zR_280_18 hR) ?_)
            refine And.intro (zP_294 hS (by omega) (by omega)) (fun v223 e223 r223 => ?_)
            have f223 : v223 = b (5 + l + 33 * s) := (e223.trans (((p215bbfr 294 _ (by omega) (by omega)).trans ((p206bbfr 294 _ (by omega) (by omega)).trans (zxu (by omega) (zxu (by omega) rfl)))).trans ((congrArg (I1 294) (by omega)).trans ((fr 294 _ (by omega) (by omega) (by omega) (by omega) (by omega) (by omega) (by omega)).trans (hb (5 + l + 33 * s) (by omega)).1))))
            refine And.intro r223 ⟨fun h224 => ?_, (fun h224 => False.elim (by omega))⟩
            refine And.intro (zA_280 hS) ⟨_, sn_B_dig.up (by decide), ?_⟩
            refine ⟨((((0 + 1) + 32) + 32) : Int), (if b (5 + l + 33 * s) = 0 then rnM (fun i => b (6 + l + 33 * s + i)) (ckD b l s) else rnM (ckD b l s) (fun i => b (6 + l + 33 * s + i))), rfl, hS, hR, (by first | exact hK | exact (fun j h1 => ((p215bbfr 281 _ (by omega) (by omega)).trans ((p206bbfr 281 _ (by omega) (by omega)).trans (zxu (by omega) (zxu (by omega) ((fr 281 _ (by omega) (by omega) (by omega) (by omega) (by omega) (by omega) (by omega)).trans rfl))))).trans (hK j h1)) | (clear hQ; grind [xu])), p215hs2, (by omega), (fun j hj => by
  first
  | (rw [if_pos (by omega)]
     unfold rnM
     by_cases h1 : j = 0
     · rw [if_pos h1, h1]
       refine (p215bbfr 282 0 (by omega) (by omega)).trans ((p206bbfr 282 0 (by omega) (by omega)).trans ?_)
       exact zxu (by decide) zxe
     · rw [if_neg h1]
       by_cases h2 : j < 33
       · rw [if_pos h2]
         refine (p215bbfr 282 j (by omega) (by omega)).trans ?_
         have := p206bhd2 (j - 1) (by omega)
         rwa [show (0 + 1 : Int).toNat + (j - 1) = j by omega] at this
       · rw [if_neg h2]
         have := p215bhd2 (j - 33) (by omega)
         rwa [show (0 + 1 + 32 : Int).toNat + (j - 33) = j by omega] at this)
  | (rw [if_neg (by omega)]
     unfold rnM
     by_cases h1 : j = 0
     · rw [if_pos h1, h1]
       refine (p235bbfr 282 0 (by omega) (by omega)).trans ((p215bbfr 282 0 (by omega) (by omega)).trans ?_)
       exact zxu (by decide) zxe
     · rw [if_neg h1]
       by_cases h2 : j < 33
       · rw [if_pos h2]
         refine (p235bbfr 282 j (by omega) (by omega)).trans ?_
         have := p215bhd2 (j - 1) (by omega)
         rwa [show (0 + 1 : Int).toNat + (j - 1) = j by omega] at this
       · rw [if_neg h2]
         have := p235bhd2 (j - 33) (by omega)
         rwa [show (0 + 1 + 32 : Int).toNat + (j - 33) = j by omega] at this)), ?_⟩
            intro I239o p239hz p239bhd p239bbfr
            refine ⟨(2, (z - s), (32 - (0 : Int)).toNat), zlt6 (by omega), [some (zvr (280)), some (zvi (l)), some (zvi ((1 : Int))), some (zvi (5 + l + 33 * s)), some (zvi ((0 : Int)))], ⟨rfl, rfl, rfl, rfl, rfl, rfl⟩, l, z, 1, s, 0, rfl, rfl, rfl, rfl, rfl, rfl, (by omega), (by omega), (by omega), (by omega), (by first | exact Or.inl rfl | exact Or.inr rfl), ?_, ?_, p239hz, (by omega), ?_, (fun j h => absurd h (by omega)), (fun c j h0 h1 h2 h3 h4 h5 h6 => ((p239bbfr c j (by omega) (by omega) (by omega) (by omega) (by omega) (by omega)).trans ((p215bbfr c j (by omega) (by omega)).trans ((p206bbfr c j (by omega) (by omega)).trans (zxcj h5 (zxu h0 ((fr c j (by omega) (by omega) (by omega) (by omega) (by omega) (by omega) (by omega)).trans rfl)))))))⟩
            · intro h k hk
              first
              | exact absurd h (by decide)
              | (by_cases e : k = s
                 · subst e
                   omega
                 · exact hu1 (by omega) k (by omega))
            · intro h h9
              first
              | exact absurd h (by decide)
              | (have e3 : (b 3).toNat = l := by omega
                 have q := h9.2.2.2.2 s (by rw [e3]; omega)
                 rw [e3] at q
                 omega)
            · intro j hj
              exact p239bhd j hj
  · rintro nM lsM stM I1 L1 R1 S1 hz1 ⟨l, z, u, s, x, rfl, rfl, rfl, rfl, rfl, rfl, hl, hz0, h1, hsz, hu0, hu1, hu2, hs1, hx, hO, hR1, fr⟩
    refine And.intro ⟨(by omega), (zRb rfl)⟩ ⟨fun h249 => ?_, fun h249 => ?_⟩
    · refine ⟨(2, (z - (s + 1)), 40), zlt6 (by omega), [some (zvr (280)), some (zvi (l)), some (zvi (u)), some (zvi (5 + l + 33 * (s + 1))), none], ⟨rfl, rfl, rfl, (congrArg (fun z => some (zvi z)) (by omega)), rfl⟩, l, z, u, (s + 1), rfl, rfl, rfl, rfl, rfl, rfl, (by omega), (by omega), (by omega), (by omega), (by first | exact hu0 | (clear hQ; grind [xu])), (by clear hQ; grind [xu]), (by first | exact hu2 | (clear hQ; grind [xu])), hs1, (fun j hj => hR1 j (by omega)), (fun c j h0 h1 h2 h3 h4 h5 h6 => ((fr c j (by omega) (by omega) (by omega) (by omega) (by omega) (by omega) (by omega)).trans rfl))⟩
    · refine And.intro (zA_280 hS) (zrdR (v := some 293) (zR_280_16 hR) ?_)
      refine And.intro (zA_280 hS) (zrdR (v := some 286) (zR_280_7 hR) ?_)
      refine And.intro (zP_286 hS (by omega) (by omega)) (fun v264 e264 r264 => ?_)
      refine And.intro ⟨(zx0 rfl), (zP_293 hS (by omega) (by omega))⟩ ⟨_, (zWi r264), ?_⟩
      refine ⟨(2, (z - s), (32 - (x + 1)).toNat), zlt6 (by omega), [some (zvr (280)), some (zvi (l)), some (zvi (u)), some (zvi (5 + l + 33 * s)), some (zvi ((x + 1)))], ⟨rfl, rfl, rfl, rfl, rfl, rfl⟩, l, z, u, s, (x + 1), rfl, rfl, rfl, rfl, rfl, rfl, (by omega), (by omega), (by omega), (by omega), (by first | exact hu0 | (clear hQ; grind [xu])), (by first | exact hu1 | (clear hQ; grind [xu])), (by first | exact hu2 | (clear hQ; grind [xu])), hs1, (by omega), (by first | exact hO | exact (fun j h1 => (zxu (by omega) rfl).trans (hO j h1)) | (clear hQ; grind [xu])), ?_, (fun c j h0 h1 h2 h3 h4 h5 h6 => (zxu h6 ((fr c j (by omega) (by omega) (by omega) (by omega) (by omega) (by omega) (by omega)).trans rfl)))⟩
      · intro j hj
        by_cases h : (j : Int) = x
        · rw [show j = x.toNat by omega]
          exact zxe.trans (e264.trans (hO x.toNat (by omega)))
        · exact zxs (by omega) (hR1 j (by omega))
  · rintro nM lsM stM I1 L1 R1 S1 hz1 ⟨l, z, u, x, rfl, rfl, rfl, rfl, rfl, rfl, hl, hz0, h1, hu0, hx, hu1, hu2, hs1, hR1, fr⟩
    refine And.intro ⟨(by omega), (zRb rfl)⟩ ⟨fun h283 => ?_, fun h283 => ?_⟩
    · refine And.intro (by omega) ?_
      refine hQ _ _ ?_ hs1 (fun c j h0 h1 h2 h3 h4 h5 h6 => ((fr c j (by omega) (by omega) (by omega) (by omega) (by omega) (by omega) (by omega)).trans rfl))
      · first
        | (refine Or.inr ⟨rfl, fun h9 => ?_⟩
           obtain ⟨⟨q1, q2, q3, q4, -⟩, -⟩ := h9
           omega)
        | (have e3 : (b 3).toNat = l := by omega
           have e4 : (b (4 + l)).toNat = z := by omega
           rcases hu0 with e | e
           · exact Or.inr ⟨e, hu2 e⟩
           · exact Or.inl ⟨e, (hu1 e).1, fun i hi => by rw [e3, e4]; exact (hu1 e).2 i (by omega)⟩)
    · refine And.intro (by omega) ⟨fun h287 => ?_, fun h287 => ?_⟩
      · refine ⟨(1, (32 - (x + 1)).toNat, 0), zlt6 (by omega), [some (zvr (280)), none, some (zvi ((0 : Int))), some (zvi ((x + 1))), none], ⟨rfl, rfl, rfl, rfl⟩, l, z, 0, (x + 1), rfl, rfl, rfl, rfl, rfl, rfl, (by omega), (by omega), (by omega), (by first | exact Or.inl rfl | exact Or.inr rfl), (by omega), ?_, ?_, hs1, (by first | exact hR1 | exact (fun h0 h1 => rfl.trans (hR1 h0 h1)) | (clear hQ; grind [xu])), (fun c j h0 h1 h2 h3 h4 h5 h6 => ((fr c j (by omega) (by omega) (by omega) (by omega) (by omega) (by omega) (by omega)).trans rfl))⟩
        · intro h
          first
          | exact absurd h (by decide)
          | (refine ⟨(hu1 (by omega)).1, fun k hk => ?_⟩
             by_cases e : (k : Int) = x
             · have ek : k = x.toNat := by omega
               rw [ek]
               have a := hR1 (by omega) x.toNat (by omega)
               omega
             · exact (hu1 (by omega)).2 k (by omega))
        · intro h h9
          have e3 : (b 3).toNat = l := by omega
          have e4 : (b (4 + l)).toNat = z := by omega
          first
          | exact absurd h (by decide)
          | exact hu2 (by omega) h9
          | (have w := h9.2 x.toNat (by omega)
             rw [e3, e4] at w
             have a := hR1 (by omega) x.toNat (by omega)
             omega)
      · refine And.intro (zA_280 hS) (zrdR (v := some 293) (zR_280_16 hR) ?_)
        refine And.intro (zP_293 hS (by omega) (by omega)) (fun v295 e295 r295 => ?_)
        refine And.intro (zA_280 hS) (zrdR (v := some 292) (zR_280_14 hR) ?_)
        refine And.intro (zA_280 hS) (zrdR (v := some 294) (zR_280_18 hR) ?_)
        refine And.intro (zP_294 hS (by omega) (by omega)) (fun v307 e307 r307 => ?_)
        have f307 : v307 = b 0 := (e307.trans ((fr 294 _ (by omega) (by omega) (by omega) (by omega) (by omega) (by omega) (by omega)).trans b0.1))
        have f307b : 0 ≤ v307 ∧ v307 ≤ 255 := (by omega)
        refine And.intro (zP_292 hS (by omega) (by omega)) (fun v311 e311 r311 => ?_)
        have f311 : v311 = rD (t (b 0).toNat) (n (b 0).toNat) (rT (n (b 0).toNat)) 0 x.toNat := (e311.trans ((congrArg (I1 292) (by omega)).trans ((fr 292 _ (by omega) (by omega) (by omega) (by omega) (by omega) (by omega) (by omega)).trans ((hr (b 0).toNat (by omega)).2.2.2 x.toNat (by omega)))))
        refine And.intro ⟨r295, r311⟩ ⟨fun h312 => ?_, fun h312 => ?_⟩
        · refine ⟨(1, (32 - (x + 1)).toNat, 0), zlt6 (by omega), [some (zvr (280)), none, some (zvi ((0 : Int))), some (zvi ((x + 1))), none], ⟨rfl, rfl, rfl, rfl⟩, l, z, 0, (x + 1), rfl, rfl, rfl, rfl, rfl, rfl, (by omega), (by omega), (by omega), (by first | exact Or.inl rfl | exact Or.inr rfl), (by omega), ?_, ?_, hs1, (by first | exact hR1 | exact (fun h0 h1 => rfl.trans (hR1 h0 h1)) | (clear hQ; grind [xu])), (fun c j h0 h1 h2 h3 h4 h5 h6 => ((fr c j (by omega) (by omega) (by omega) (by omega) (by omega) (by omega) (by omega)).trans rfl))⟩
          · intro h
            first
            | exact absurd h (by decide)
            | (refine ⟨(hu1 (by omega)).1, fun k hk => ?_⟩
               by_cases e : (k : Int) = x
               · have ek : k = x.toNat := by omega
                 rw [ek]
                 have a := hR1 (by omega) x.toNat (by omega)
                 omega
               · exact (hu1 (by omega)).2 k (by omega))
          · intro h h9
            have e3 : (b 3).toNat = l := by omega
            have e4 : (b (4 + l)).toNat = z := by omega
            first
            | exact absurd h (by decide)
            | exact hu2 (by omega) h9
            | (have w := h9.2 x.toNat (by omega)
               rw [e3, e4] at w
               have a := hR1 (by omega) x.toNat (by omega)
               omega)
        · refine ⟨(1, (32 - (x + 1)).toNat, 0), zlt6 (by omega), [some (zvr (280)), none, some (zvi ((1 : Int))), some (zvi ((x + 1))), none], ⟨rfl, rfl, rfl, rfl⟩, l, z, 1, (x + 1), rfl, rfl, rfl, rfl, rfl, rfl, (by omega), (by omega), (by omega), (by first | exact Or.inl rfl | exact Or.inr rfl), (by omega), ?_, ?_, hs1, (by first | exact hR1 | exact (fun h0 h1 => rfl.trans (hR1 h0 h1)) | (clear hQ; grind [xu])), (fun c j h0 h1 h2 h3 h4 h5 h6 => ((fr c j (by omega) (by omega) (by omega) (by omega) (by omega) (by omega) (by omega)).trans rfl))⟩
          · intro h
            first
            | exact absurd h (by decide)
            | (refine ⟨(hu1 (by omega)).1, fun k hk => ?_⟩
               by_cases e : (k : Int) = x
               · have ek : k = x.toNat := by omega
                 rw [ek]
                 have a := hR1 (by omega) x.toNat (by omega)
                 omega
               · exact (hu1 (by omega)).2 k (by omega))
          · intro h h9
            have e3 : (b 3).toNat = l := by omega
            have e4 : (b (4 + l)).toNat = z := by omega
            first
            | exact absurd h (by decide)
            | exact hu2 (by omega) h9
            | (have w := h9.2 x.toNat (by omega)
               rw [e3, e4] at w
               have a := hR1 (by omega) x.toNat (by omega)
               omega))
def T_B_checked : ZT := fun args I L R S Q => ∃ (bc : Nat) (cn : Nat) (t : Nat → Nat → Int) (n : Nat → Nat) (b : Nat → Int), args = [zvr 280] ∧ (zSh S) ∧ (zRs R) ∧ (zRB cn t n I) ∧ (I 280 17 = bc) ∧ (5 ≤ bc ∧ bc ≤ 201) ∧ (∀ i : Nat, i < bc → I 294 i = b i ∧ 0 ≤ b i ∧ b i ≤ 255) ∧ ∀ (v : Int) (I' : ZI), ((v = 1 ∧ ckH cn t n b bc) ∨ (v = 0 ∧ ¬ ckH cn t n b bc)) → (I' 280 2 = 0) → (∀ c j : Nat, ¬ c = 282 → ¬ c = 283 → ¬ c = 284 → ¬ c = 285 → ¬ c = 286 → ¬ (c = 280 ∧ j = 2) → ¬ c = 293 → ¬ (c = 280 ∧ j = 0) → I' c j = I c j) → Q (some (zvi (v))) I' L R S
theorem sn_B_checked : ZSnd 5 19 5 T_B_checked := ZSnd.of (zT19_5 4) (by
  rintro args I L R S Q hz ⟨bc, cn, t, n, b, rfl, hS, hR, hRB, hbc, h0, hb, hQ⟩
  refine And.intro rfl ?_
  refine And.intro (zA_280 hS) ⟨_, (zWi (zRb rfl)), ?_⟩
  refine And.intro (zA_280 hS) ⟨_, sn_B_holds.up (by decide), ?_⟩
  refine ⟨_, _, _, _, _, rfl, hS, hR, (zRB_fr hRB ((show _ = I 280 2 from rfl).trans hRB.2.2.1) (fun c j h => zxcj (by omega) rfl)), hbc, (by omega), (by first | exact hb | exact (fun i h1 => ⟨(zxu (by omega) rfl).trans (hb i h1).1, (hb i h1).2⟩) | (clear hQ; grind [xu])), ?_⟩
  intro v6o I6o p6hv p6bhz2 p6bbfr
  refine And.intro (by omega) ⟨fun h9 => ?_, fun h9 => ?_⟩
  · refine hQ _ _ ?_ p6bhz2 (fun c j h0 h1 h2 h3 h4 h5 h6 h7 => ((p6bbfr c j (by omega) (by omega) (by omega) (by omega) (by omega) (by omega) (by omega)).trans (zxcj h7 rfl)))
    · first
      | exact Or.inl ⟨rfl, by rcases p6hv with w | w <;> first | exact w.2 | (exfalso; omega)⟩
      | exact Or.inr ⟨rfl, by rcases p6hv with w | w <;> first | exact w.2 | (exfalso; omega)⟩
  · refine hQ _ _ ?_ p6bhz2 (fun c j h0 h1 h2 h3 h4 h5 h6 h7 => ((p6bbfr c j (by omega) (by omega) (by omega) (by omega) (by omega) (by omega) (by omega)).trans (zxcj h7 rfl)))
    · first
      | exact Or.inl ⟨rfl, by rcases p6hv with w | w <;> first | exact w.2 | (exfalso; omega)⟩
      | exact Or.inr ⟨rfl, by rcases p6hv with w | w <;> first | exact w.2 | (exfalso; omega)⟩)
