/-! relc -/
def T_B_putD : ZT := fun args I L R S Q => ∃ (s : Int) (a : Int) (d : Nat → Int), args = [zvr 280, zvr 293, zvi a] ∧ (zSh S) ∧ (zRs R) ∧ (I 280 2 = s) ∧ (0 ≤ s ∧ s ≤ 480 ∧ 0 ≤ a ∧ a ≤ 224) ∧ (∀ i : Nat, i < 32 → I 293 (a.toNat + i) = d i) ∧ ∀ (I' : ZI), (I' 280 2 = s + 32) → (∀ i : Nat, i < 32 → I' 282 (s.toNat + i) = d i) → (∀ c j : Nat, ¬ (c = 282 ∧ s ≤ j) → ¬ (c = 280 ∧ j = 2) → I' c j = I c j) → Q none I' L R S
theorem sn_B_putD : ZSnd 2 19 26 T_B_putD := ZSnd.loops (zT19_26 1) (by
  rintro args I L R S Q hz ⟨s, a, d, rfl, hS, hR, hs, h0, hd, hQ⟩
  refine ⟨[2], fun nM tM lsM stM I1 L1 R1 S1 => match tM with
      | 2 => ∃ (i : Int), nM = ((32 - i).toNat, 0, 0) ∧ lsM = [some (zvr (280)), some (zvr (293)), some (zvi (a)), some (zvi (i))] ∧ stM = [] ∧ L1 = L ∧ R1 = R ∧ S1 = S ∧ (0 ≤ i ∧ i ≤ 32) ∧ (I1 280 2 = s + i) ∧ (∀ j : Nat, (j : Int) < i → I1 282 (s.toNat + j) = d j) ∧ (∀ c j : Nat, ¬ (c = 282 ∧ s ≤ j) → ¬ (c = 280 ∧ j = 2) → I1 c j = I c j)
      | _ => False, rfl, ?_, ⟨?_, True.intro⟩⟩
  · refine ⟨((32 - (0 : Int)).toNat, 0, 0), [some (zvr (280)), some (zvr (293)), some (zvi (a)), some (zvi ((0 : Int)))], ⟨rfl, rfl, rfl, rfl, rfl⟩, 0, rfl, rfl, rfl, rfl, rfl, rfl, (by omega), (Eq.trans (b := (s : Int)) hs (by omega)), (by clear hQ; grind [xu]), (fun c j h0 h1 => rfl)⟩
  · rintro nM lsM stM I1 L1 R1 S1 hz1 ⟨i, rfl, rfl, rfl, rfl, rfl, rfl, hi, hs1, hd1, fr⟩
    refine And.intro ⟨(by omega), (zRb rfl)⟩ ⟨fun h5 => ?_, fun h5 => ?_⟩
    · refine hQ _ (Eq.trans (b := ((s + i) : Int)) hs1 (by omega)) (fun j hj => hd1 j (by omega)) (fun c j h0 h1 => ((fr c j (by omega) (by omega)).trans rfl))
    · refine And.intro (zP_293 hS (by omega) (by omega)) (fun v13 e13 r13 => ?_)
      refine And.intro (zA_280 hS) (Exists.intro _ (And.intro (zinl_ok (zT19_25 0)) (And.intro rfl ?_)))
      refine And.intro (zA_280 hS) (zrdR (v := some 282) (zR_280_3 hR) ?_)
      refine And.intro (zA_280 hS) (zrd (v := (s + i)) hs1 ?_)
      refine And.intro ⟨(zx0 rfl), (zP_282 hS (by omega) (by omega))⟩ ⟨_, (zWi r13), ?_⟩
      refine And.intro (zA_280 hS) (zrd (v := (s + i)) hs1 ?_)
      refine And.intro (zA_280 hS) ⟨_, (zWi (by omega)), ?_⟩
      refine ⟨((32 - (i + 1)).toNat, 0, 0), zlt6 (by omega), [some (zvr (280)), some (zvr (293)), some (zvi (a)), some (zvi ((i + 1)))], ⟨rfl, rfl, rfl, rfl, rfl⟩, (i + 1), rfl, rfl, rfl, rfl, rfl, rfl, (by omega), (Eq.trans (b := (((s + i) + 1) : Int)) rfl (by omega)), ?_, (fun c j h0 h1 => (zxcj h1 (zxcj (by omega) ((fr c j (by omega) (by omega)).trans rfl))))⟩
      · intro j hj
        refine zxu (by decide) ?_
        by_cases h : (j : Int) = i
        · rw [show s.toNat + j = (s + i).toNat by omega]
          refine zxe.trans ?_
          rw [e13, fr _ _ (by omega) (by omega), ← hd j (by omega)]
          congr 1 <;> omega
        · exact zxs (by omega) (hd1 j (by omega)))
def T_B_putC : ZT := fun args I L R S Q => ∃ (s : Int) (a : Int) (d : Nat → Int), args = [zvr 280, zvr 294, zvi a] ∧ (zSh S) ∧ (zRs R) ∧ (I 280 2 = s) ∧ (0 ≤ s ∧ s ≤ 480 ∧ 0 ≤ a ∧ a ≤ 268) ∧ (∀ i : Nat, i < 32 → I 294 (a.toNat + i) = d i) ∧ ∀ (I' : ZI), (I' 280 2 = s + 32) → (∀ i : Nat, i < 32 → I' 282 (s.toNat + i) = d i) → (∀ c j : Nat, ¬ (c = 282 ∧ s ≤ j) → ¬ (c = 280 ∧ j = 2) → I' c j = I c j) → Q none I' L R S
theorem sn_B_putC : ZSnd 2 19 26 T_B_putC := ZSnd.loops (zT19_26 1) (by
  rintro args I L R S Q hz ⟨s, a, d, rfl, hS, hR, hs, h0, hd, hQ⟩
  refine ⟨[2], fun nM tM lsM stM I1 L1 R1 S1 => match tM with
      | 2 => ∃ (i : Int), nM = ((32 - i).toNat, 0, 0) ∧ lsM = [some (zvr (280)), some (zvr (294)), some (zvi (a)), some (zvi (i))] ∧ stM = [] ∧ L1 = L ∧ R1 = R ∧ S1 = S ∧ (0 ≤ i ∧ i ≤ 32) ∧ (I1 280 2 = s + i) ∧ (∀ j : Nat, (j : Int) < i → I1 282 (s.toNat + j) = d j) ∧ (∀ c j : Nat, ¬ (c = 282 ∧ s ≤ j) → ¬ (c = 280 ∧ j = 2) → I1 c j = I c j)
      | _ => False, rfl, ?_, ⟨?_, True.intro⟩⟩
  · refine ⟨((32 - (0 : Int)).toNat, 0, 0), [some (zvr (280)), some (zvr (294)), some (zvi (a)), some (zvi ((0 : Int)))], ⟨rfl, rfl, rfl, rfl, rfl⟩, 0, rfl, rfl, rfl, rfl, rfl, rfl, (by omega), (Eq.trans (b := (s : Int)) hs (by omega)), (by clear hQ; grind [xu]), (fun c j h0 h1 => rfl)⟩
  · rintro nM lsM stM I1 L1 R1 S1 hz1 ⟨i, rfl, rfl, rfl, rfl, rfl, rfl, hi, hs1, hd1, fr⟩
    refine And.intro ⟨(by omega), (zRb rfl)⟩ ⟨fun h5 => ?_, fun h5 => ?_⟩
    · refine hQ _ (Eq.trans (b := ((s + i) : Int)) hs1 (by omega)) (fun j hj => hd1 j (by omega)) (fun c j h0 h1 => ((fr c j (by omega) (by omega)).trans rfl))
    · refine And.intro (zP_294 hS (by omega) (by omega)) (fun v13 e13 r13 => ?_)
      refine And.intro (zA_280 hS) (Exists.intro _ (And.intro (zinl_ok (zT19_25 0)) (And.intro rfl ?_)))
      refine And.intro (zA_280 hS) (zrdR (v := some 282) (zR_280_3 hR) ?_)
      refine And.intro (zA_280 hS) (zrd (v := (s + i)) hs1 ?_)
      refine And.intro ⟨(zx0 rfl), (zP_282 hS (by omega) (by omega))⟩ ⟨_, (zWi r13), ?_⟩
      refine And.intro (zA_280 hS) (zrd (v := (s + i)) hs1 ?_)
      refine And.intro (zA_280 hS) ⟨_, (zWi (by omega)), ?_⟩
      refine ⟨((32 - (i + 1)).toNat, 0, 0), zlt6 (by omega), [some (zvr (280)), some (zvr (294)), some (zvi (a)), some (zvi ((i + 1)))], ⟨rfl, rfl, rfl, rfl, rfl⟩, (i + 1), rfl, rfl, rfl, rfl, rfl, rfl, (by omega), (Eq.trans (b := (((s + i) + 1) : Int)) rfl (by omega)), ?_, (fun c j h0 h1 => (zxcj h1 (zxcj (by omega) ((fr c j (by omega) (by omega)).trans rfl))))⟩
      · intro j hj
        refine zxu (by decide) ?_
        by_cases h : (j : Int) = i
        · rw [show s.toNat + j = (s + i).toNat by omega]
          refine zxe.trans ?_
          rw [e13, fr _ _ (by omega) (by omega), ← hd j (by omega)]
          congr 1 <;> omega
        · exact zxs (by omega) (hd1 j (by omega)))
def T_B_goUp : ZT := fun args I L R S Q => ∃ (l : Nat) (n : Nat) (t : Nat → Int), args = [zvr 280] ∧ (zSh S) ∧ (zRs R) ∧ (∀ j : Nat, j < 64 → I 281 j = shK j) ∧ (I 280 2 = 0) ∧ (I 280 15 = rW n l) ∧ (1 < rW n l) ∧ ((l = 0 ∧ rW n l ≤ 8) ∨ (l = 1 ∧ rW n l ≤ 4) ∨ (l = 2 ∧ rW n l ≤ 2)) ∧ (∀ k i : Nat, k < rW n l → i < 32 → I 293 (32 * k + i) = rD t n l k i) ∧ ∀ (I' : ZI), (I' 280 2 = 0) → (I' 280 15 = rW n (l + 1)) → (∀ k i : Nat, k < rW n (l + 1) → i < 32 → I' 293 (32 * k + i) = rD t n (l + 1) k i) → (∀ c j : Nat, ¬ c = 282 → ¬ c = 283 → ¬ c = 284 → ¬ c = 285 → ¬ c = 286 → ¬ c = 293 → ¬ (c = 280 ∧ j = 2) → ¬ (c = 280 ∧ j = 15) → I' c j = I c j) → Q none I' L R S
theorem sn_B_goUp : ZSnd 4 19 12 T_B_goUp := ZSnd.loops (zT19_12 3) (by
  rintro args I L R S Q hz ⟨l, n, t, rfl, hS, hR, hK, hz0, hw, h0, h1, hd, hQ⟩
  have hwu : rW n (l + 1) = (rW n l + 1) / 2 := rfl
  have rs : ∀ q, rD t n (l + 1) q = if 2 * q + 1 < rW n l then shD (rnM (rD t n l (2 * q)) (rD t n l (2 * q + 1))) 65 else rD t n l (2 * q) := fun _ => rfl
  refine ⟨[2, 22, 97], fun nM tM lsM stM I1 L1 R1 S1 => match tM with
      | 2 => ∃ (q : Nat), nM = ((10 - q), 40, 0) ∧ lsM = [some (zvr (280)), some (zvi (2 * q)), none] ∧ stM = [] ∧ L1 = L ∧ R1 = R ∧ S1 = S ∧ (2 * q ≤ rW n l + 1) ∧ (I1 280 2 = 0) ∧ (∀ k i : Nat, k < q → i < 32 → I1 293 (32 * k + i) = rD t n (l + 1) k i) ∧ (∀ k i : Nat, 2 * q ≤ k → k < rW n l → i < 32 → I1 293 (32 * k + i) = rD t n l k i) ∧ (∀ c j : Nat, ¬ c = 282 → ¬ c = 283 → ¬ c = 284 → ¬ c = 285 → ¬ c = 286 → ¬ c = 293 → ¬ (c = 280 ∧ j = 2) → I1 c j = I c j)
      | 22 => ∃ (q : Nat) (i : Int), nM = ((10 - q), (32 - i).toNat, 0) ∧ lsM = [some (zvr (280)), some (zvi (2 * q)), some (zvi (i))] ∧ stM = [] ∧ L1 = L ∧ R1 = R ∧ S1 = S ∧ (2 * q + 1 = rW n l) ∧ (0 ≤ i ∧ i ≤ 32) ∧ (I1 280 2 = 0) ∧ (∀ k i : Nat, k < q → i < 32 → I1 293 (32 * k + i) = rD t n (l + 1) k i) ∧ (∀ j : Nat, (j : Int) < i → I1 293 (32 * q + j) = rD t n l (2 * q) j) ∧ (∀ j : Nat, j < 32 → I1 293 (64 * q + j) = rD t n l (2 * q) j) ∧ (∀ c j : Nat, ¬ c = 282 → ¬ c = 283 → ¬ c = 284 → ¬ c = 285 → ¬ c = 286 → ¬ c = 293 → ¬ (c = 280 ∧ j = 2) → I1 c j = I c j)
      | 97 => ∃ (q : Nat) (i : Int), nM = ((10 - q), (32 - i).toNat, 0) ∧ lsM = [some (zvr (280)), some (zvi (2 * q)), some (zvi (i))] ∧ stM = [] ∧ L1 = L ∧ R1 = R ∧ S1 = S ∧ (2 * q + 1 < rW n l) ∧ (0 ≤ i ∧ i ≤ 32) ∧ (I1 280 2 = 0) ∧ (∀ k i : Nat, k < q → i < 32 → I1 293 (32 * k + i) = rD t n (l + 1) k i) ∧ (∀ j : Nat, j < 32 → I1 286 j = rD t n (l + 1) q j) ∧ (∀ j : Nat, (j : Int) < i → I1 293 (32 * q + j) = rD t n (l + 1) q j) ∧ (∀ k i : Nat, 2 * q + 2 ≤ k → k < rW n l → i < 32 → I1 293 (32 * k + i) = rD t n l k i) ∧ (∀ c j : Nat, ¬ c = 282 → ¬ c = 283 → ¬ c = 284 → ¬ c = 285 → ¬ c = 286 → ¬ c = 293 → ¬ (c = 280 ∧ j = 2) → I1 c j = I c j)
      | _ => False, rfl, ?_, ⟨?_, ?_, ?_, True.intro⟩⟩
  · refine ⟨((10 - (0 : Nat)), 40, 0), [some (zvr (280)), some (zvi (2 * (0 : Nat))), none], ⟨rfl, (congrArg (fun z => some (zvi z)) (by omega)), rfl⟩, 0, rfl, rfl, rfl, rfl, rfl, rfl, (by omega), hz0, (fun k i h => absurd h (Nat.not_lt_zero k)), (fun k i _ h1 h2 => hd k i h1 h2), (fun c j h0 h1 h2 h3 h4 h5 h6 => rfl)⟩
  · rintro nM lsM stM I1 L1 R1 S1 hz1 ⟨q, rfl, rfl, rfl, rfl, rfl, rfl, hq, hz1, hdl, hdh, fr⟩
    refine And.intro (zA_280 hS) (zrd (v := (rW n l)) ((fr 280 15 (by omega) (by omega) (by omega) (by omega) (by omega) (by omega) (by omega)).trans hw) ?_)
    refine And.intro ⟨(by omega), (by omega)⟩ ⟨fun h7 => ?_, fun h7 => ?_⟩
    · refine And.intro (zA_280 hS) (zrd (v := (rW n l)) ((fr 280 15 (by omega) (by omega) (by omega) (by omega) (by omega) (by omega) (by omega)).trans hw) ?_)
      refine And.intro ⟨(by omega), (zRb rfl), (by decide)⟩ (zdv (by omega) (fun q140 e140 => ?_))
      refine And.intro (zA_280 hS) ⟨_, (zWi (by omega)), ?_⟩
      refine hQ _ hz1 (Eq.trans (b := (q140 : Int)) rfl (by omega)) (fun k j h1 h2 => zxu (by decide) (hdl k j (by omega) h2)) (fun c j h0 h1 h2 h3 h4 h5 h6 h7 => (zxcj h7 ((fr c j (by omega) (by omega) (by omega) (by omega) (by omega) (by omega) (by omega)).trans rfl)))
    · refine And.intro (zA_280 hS) (zrd (v := (rW n l)) ((fr 280 15 (by omega) (by omega) (by omega) (by omega) (by omega) (by omega) (by omega)).trans hw) ?_)
      refine And.intro ⟨(by omega), (by omega)⟩ ⟨fun h17 => ?_, fun h17 => ?_⟩
      · refine And.intro (zA_280 hS) (Exists.intro _ (And.intro (zinl_ok (zT19_25 2)) (And.intro rfl ?_)))
        refine And.intro (zA_280 hS) (zrdR (v := some 282) (zR_280_3 hR) ?_)
        refine And.intro (zA_280 hS) (zrd (v := 0) hz1 ?_)
        refine And.intro ⟨(zx0 rfl), (zP_282 hS (by omega) (by omega))⟩ ⟨_, (zWi (zRb rfl)), ?_⟩
        refine And.intro (zA_280 hS) (zrd (v := 0) hz1 ?_)
        refine And.intro (zA_280 hS) ⟨_, (zWi (zRb rfl)), ?_⟩
        refine And.intro (zA_280 hS) (zrdR (v := some 293) (zR_280_16 hR) ?_)
        refine And.intro (zA_280 hS) ⟨_, sn_B_putD.up (by decide), ?_⟩
        refine ⟨((0 + 1) : Int), ((32 * (2 * q)) : Int), (rD t n l (2 * q)), rfl, hS, hR, rfl, (by omega), (fun i hi => by
  refine ((zxu (by omega) (zxu (by omega) rfl))).trans ?_
  rw [← hdh (2 * q) i (Nat.le_refl _) (by omega) hi]
  congr 1 <;> omega), ?_⟩
        intro I73o p73hs2 p73bhd2 p73bbfr
        refine And.intro (zA_280 hS) (zrdR (v := some 293) (zR_280_16 hR) ?_)
        refine And.intro (zA_280 hS) ⟨_, sn_B_putD.up (by decide), ?_⟩
        refine ⟨(((0 + 1) + 32) : Int), (((32 * (2 * q)) + 32) : Int), (rD t n l (2 * q + 1)), rfl, hS, hR, p73hs2, (by omega), (fun i hi => by
  refine (p73bbfr 293 _ (by omega) (by omega)).trans ?_
  refine (show _ = I1 293 _ from zxu (by decide) (zxu (by decide) rfl)).trans ?_
  rw [← hdh (2 * q + 1) i (by omega) (by omega) hi]
  congr 1 <;> omega), ?_⟩
        intro I88o p88hs2 p88bhd2 p88bbfr
        refine And.intro (zA_280 hS) ⟨_, sn_B_dig.up (by decide), ?_⟩
        refine ⟨((((0 + 1) + 32) + 32) : Int), (rnM (rD t n l (2 * q)) (rD t n l (2 * q + 1))), rfl, hS, hR, (fun j hj => (p88bbfr 281 j (by omega) (by omega)).trans ((p73bbfr 281 j (by omega) (by omega)).trans ((show _ = I1 281 j from zxu (by decide) (zxu (by decide) rfl)).trans ((fr 281 j (by omega) (by omega) (by omega) (by omega) (by omega) (by omega) (by omega)).trans (hK j hj))))), p88hs2, (by omega), (fun j hj => by
  unfold rnM
  by_cases h1 : j = 0
  · rw [if_pos h1, h1]
    refine (p88bbfr 282 0 (by omega) (by omega)).trans ((p73bbfr 282 0 (by omega) (by omega)).trans ?_)
    exact zxu (by decide) zxe
  · rw [if_neg h1]
    by_cases h2 : j < 33
    · rw [if_pos h2]
      refine (p88bbfr 282 j (by omega) (by omega)).trans ?_
      have := p73bhd2 (j - 1) (by omega)
      rwa [show (0 + 1 : Int).toNat + (j - 1) = j by omega] at this
    · rw [if_neg h2]
      have := p88bhd2 (j - 33) (by omega)
      rwa [show (0 + 1 + 32 : Int).toNat + (j - 33) = j by omega] at this), ?_⟩
        intro I92o p92hz p92bhd p92bbfr
        refine ⟨((10 - q), (32 - (0 : Int)).toNat, 0), zlt6 (by omega), [some (zvr (280)), some (zvi (2 * q)), some (zvi ((0 : Int)))], ⟨rfl, rfl, rfl, rfl⟩, q, 0, rfl, rfl, rfl, rfl, rfl, rfl, (by omega), (by omega), p92hz, (fun k j h1 h2 => ((p92bbfr 293 _ (by omega) (by omega) (by omega) (by omega) (by omega) (by omega)).trans ((p88bbfr 293 _ (by omega) (by omega)).trans ((p73bbfr 293 _ (by omega) (by omega)).trans (zxu (by omega) (zxu (by omega) rfl))))).trans (hdl k j h1 h2)), ?_, (fun j h => absurd h (by omega)), (fun k j h1 h2 h3 => ((p92bbfr 293 _ (by omega) (by omega) (by omega) (by omega) (by omega) (by omega)).trans ((p88bbfr 293 _ (by omega) (by omega)).trans ((p73bbfr 293 _ (by omega) (by omega)).trans (zxu (by omega) (zxu (by omega) rfl))))).trans (hdh k j (by omega) h2 h3)), (fun c j h0 h1 h2 h3 h4 h5 h6 => ((p92bbfr c j (by omega) (by omega) (by omega) (by omega) (by omega) (by omega)).trans ((p88bbfr c j (by omega) (by omega)).trans ((p73bbfr c j (by omega) (by omega)).trans (zxcj h6 (zxu h0 ((fr c j (by omega) (by omega) (by omega) (by omega) (by omega) (by omega) (by omega)).trans rfl)))))))⟩
        · intro j hj
          rw [rs, if_pos (by omega)]
          exact p92bhd j hj
      · refine ⟨((10 - q), (32 - (0 : Int)).toNat, 0), zlt6 (by omega), [some (zvr (280)), some (zvi (2 * q)), some (zvi ((0 : Int)))], ⟨rfl, rfl, rfl, rfl⟩, q, 0, rfl, rfl, rfl, rfl, rfl, rfl, (by omega), (by omega), hz1, hdl, (fun j h => absurd h (by omega)), (fun j h => by have := hdh (2 * q) j (Nat.le_refl _) (by omega) h; rwa [show 32 * (2 * q) + j = 64 * q + j by omega] at this), (fun c j h0 h1 h2 h3 h4 h5 h6 => ((fr c j (by omega) (by omega) (by omega) (by omega) (by omega) (by omega) (by omega)).trans rfl))⟩
  · rintro nM lsM stM I1 L1 R1 S1 hz1 ⟨q, i, rfl, rfl, rfl, rfl, rfl, rfl, hq, hi, hz1, hdl, hdm, hdh, fr⟩
    refine And.intro ⟨(by omega), (zRb rfl)⟩ ⟨fun h25 => ?_, fun h25 => ?_⟩
    · refine ⟨((10 - (q + 1)), 40, 0), zlt6 (by omega), [some (zvr (280)), some (zvi (2 * (q + 1))), none], ⟨rfl, (congrArg (fun z => some (zvi z)) (by omega)), rfl⟩, (q + 1), rfl, rfl, rfl, rfl, rfl, rfl, (by omega), hz1, ?_, (fun k j h1 h2 => absurd h2 (by omega)), (fun c j h0 h1 h2 h3 h4 h5 h6 => ((fr c j (by omega) (by omega) (by omega) (by omega) (by omega) (by omega) (by omega)).trans rfl))⟩
      · intro k j h1 h2
        by_cases h : k = q
        · rw [h, hdm j (by omega), rs, if_neg (by omega)]
        · exact hdl k j (by omega) h2
    · refine And.intro (zA_280 hS) (zrdR (v := some 293) (zR_280_16 hR) ?_)
      refine And.intro (zA_280 hS) (zrdR (v := some 293) (zR_280_16 hR) ?_)
      refine And.intro (zP_293 hS (by omega) (by omega)) (fun v48 e48 r48 => ?_)
      refine And.intro ⟨(zx0 rfl), (zP_293 hS (by omega) (by omega))⟩ ⟨_, (zWi r48), ?_⟩
      refine ⟨((10 - q), (32 - (i + 1)).toNat, 0), zlt6 (by omega), [some (zvr (280)), some (zvi (2 * q)), some (zvi ((i + 1)))], ⟨rfl, rfl, rfl, rfl⟩, q, (i + 1), rfl, rfl, rfl, rfl, rfl, rfl, (by omega), (by omega), hz1, (fun k j h1 h2 => zxs (by omega) (hdl k j h1 h2)), ?_, ?_, (fun c j h0 h1 h2 h3 h4 h5 h6 => (zxu h5 ((fr c j (by omega) (by omega) (by omega) (by omega) (by omega) (by omega) (by omega)).trans rfl)))⟩
      · intro j hj
        by_cases h : (j : Int) = i
        · rw [show 32 * q + j = (16 * (2 * q) + i : Int).toNat by omega]
          refine zxe.trans ?_
          rw [e48, ← hdh j (by omega)]
          congr 1 <;> omega
        · exact zxs (by omega) (hdm j (by omega))
      · intro j hj
        by_cases h : q = 0
        · exfalso
          omega
        · exact zxs (by omega) (hdh j hj)
  · rintro nM lsM stM I1 L1 R1 S1 hz1 ⟨q, i, rfl, rfl, rfl, rfl, rfl, rfl, hq, hi, hz1, hdl, ho, hdm, hdh, fr⟩
    refine And.intro ⟨(by omega), (zRb rfl)⟩ ⟨fun h100 => ?_, fun h100 => ?_⟩
    · refine ⟨((10 - (q + 1)), 40, 0), zlt6 (by omega), [some (zvr (280)), some (zvi (2 * (q + 1))), none], ⟨rfl, (congrArg (fun z => some (zvi z)) (by omega)), rfl⟩, (q + 1), rfl, rfl, rfl, rfl, rfl, rfl, (by omega), hz1, ?_, (fun k j h1 h2 h3 => hdh k j (by omega) h2 h3), (fun c j h0 h1 h2 h3 h4 h5 h6 => ((fr c j (by omega) (by omega) (by omega) (by omega) (by omega) (by omega) (by omega)).trans rfl))⟩
      · intro k j h1 h2
        by_cases h : k = q
        · rw [h]; exact hdm j (by omega)
        · exact hdl k j (by omega) h2
    · refine And.intro (zA_280 hS) (zrdR (v := some 293) (zR_280_16 hR) ?_)
      refine And.intro (zA_280 hS) (zrdR (v := some 286) (zR_280_7 hR) ?_)
      refine And.intro (zP_286 hS (by omega) (by omega)) (fun v118 e118 r118 => ?_)
      refine And.intro ⟨(zx0 rfl), (zP_293 hS (by omega) (by omega))⟩ ⟨_, (zWi r118), ?_⟩
      refine ⟨((10 - q), (32 - (i + 1)).toNat, 0), zlt6 (by omega), [some (zvr (280)), some (zvi (2 * q)), some (zvi ((i + 1)))], ⟨rfl, rfl, rfl, rfl⟩, q, (i + 1), rfl, rfl, rfl, rfl, rfl, rfl, (by omega), (by omega), hz1, (fun k j h1 h2 => zxs (by omega) (hdl k j h1 h2)), (fun j hj => zxu (by decide) (ho j hj)), ?_, (fun k j h1 h2 h3 => zxs (by omega) (hdh k j h1 h2 h3)), (fun c j h0 h1 h2 h3 h4 h5 h6 => (zxu h5 ((fr c j (by omega) (by omega) (by omega) (by omega) (by omega) (by omega) (by omega)).trans rfl)))⟩
      · intro j hj
        by_cases h : (j : Int) = i
        · rw [show 32 * q + j = (16 * (2 * q) + i : Int).toNat by omega]
          refine zxe.trans ?_
          rw [e118, ← ho j (by omega)]
          congr 1 <;> omega
        · exact zxs (by omega) (hdm j (by omega)))
