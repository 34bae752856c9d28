/-! gr -/
def T_A_round : ZT := fun args I L R S Q => ∃ (b : Nat) (s : BdS) (hb_ : Nat) (rb : Nat), args = [zvr 98] ∧ (zSh S) ∧ (zRs R) ∧ (zBA b s I L) ∧ (bGd s) ∧ (∀ c, c < 1024 → bhi s c ≤ hb_) ∧ (∀ m, m < bnn s → 0 ≤ bN s m 4 ∧ bN s m 4 ≤ rb) ∧ (hb_ + 17 ≤ 400000) ∧ (rb + 65 ≤ 1900000000) ∧ ∀ (I' : ZI) (L' : ZI), (zBA b (bGr s) I' L') → (bGd (bGr s) ∧ (∀ c, c < 1024 → bhi (bGr s) c ≤ hb_ + 12) ∧ (∀ m, m < bnn (bGr s) → 0 ≤ bN (bGr s) m 4 ∧ bN (bGr s) m 4 ≤ rb + 60) ∧ bnn (bGr s) = bnn s) → (∀ c j : Nat, ¬ c = 85 → ¬ c = 86 → ¬ c = 91 → ¬ c = 92 → ¬ c = 93 → ¬ c = 101 → ¬ c = 99 → ¬ c = 100 → ¬ (c = 98 ∧ j = 5) → ¬ c = 103 → I' c j = I c j) → (∀ c j : Nat, ¬ c = 102 → ¬ (c = 82 ∧ j = 4) → L' c j = L c j) → Q none I' L' R S
theorem sn_A_round : ZSnd 7 6 4 T_A_round := ZSnd.loops (zT6_4 6) (by
  rintro args I L R S Q hz ⟨b, s, hb_, rb, rfl, hS, hR, hBA, hGd, hhi, hrp, hhb, hrb, hQ⟩
  obtain ⟨⟨hb0, hbw, hbh, hbd, hbs⟩, hnb, hcl, hPT, hNT, hwy, hco, hnd⟩ := id hBA
  obtain ⟨hP1, hP2, hP3, hP4⟩ := id hPT
  obtain ⟨hN1, hN2, hN3, hN4⟩ := id hNT
  obtain ⟨⟨⟨gW1, gW2⟩, ⟨gH1, gH2⟩, ⟨gD1, gD2⟩, gB9⟩, ⟨gnp, gnn⟩, gc, gp, gn, gco, gnd, gun⟩ := id hGd
  have hop := bOpn_le s
  refine ⟨[4, 49, 100], fun nM tM lsM stM I1 L1 R1 S1 => match tM with
      | 4 => ∃ (k : Nat), nM = (4, (13 - k), 0) ∧ lsM = [some (zvr (98)), some (zvi (bOpn s k)), some (zvi (k)), none, none] ∧ stM = [] ∧ L1 = L ∧ R1 = R ∧ S1 = S ∧ (k ≤ bnn s) ∧ ((∀ j : Nat, j < bOpn s k → I1 103 j = bOf s k j)) ∧ (∀ c j : Nat, ¬ c = 103 → I1 c j = I c j)
      | 49 => ∃ (t : BdS) (f : Nat → Nat) (z : Int), nM = (3, (z + 1 : Int).toNat, 0) ∧ lsM = [some (zvr (98)), some (zvi (bOpn s (bnn s))), some (zvi (z)), none, none] ∧ stM = [] ∧ R1 = R ∧ S1 = S ∧ (-1 ≤ z ∧ z + 1 ≤ bOpn s (bnn s)) ∧ (bSw z.toNat (t, f) = bSw (bOpn s (bnn s) - 1) (s, bOf s (bnn s))) ∧ (t = bs_sd s (bsd t)) ∧ (zBA b t I1 L1) ∧ ((∀ j : Nat, j < bOpn s (bnn s) → I1 103 j = f j)) ∧ ((∀ j : Nat, j < bOpn s (bnn s) → f j < bnn s)) ∧ (∀ c j : Nat, ¬ c = 103 → I1 c j = I c j) ∧ (∀ c j : Nat, ¬ (c = 82 ∧ j = 4) → L1 c j = L c j)
      | 100 => ∃ (t : BdS) (f : Nat → Nat) (k : Nat), nM = (2, (13 - k), 0) ∧ lsM = [some (zvr (98)), some (zvi (bOpn s (bnn s))), some (zvi (k)), none, none] ∧ stM = [] ∧ R1 = R ∧ S1 = S ∧ (k ≤ bOpn s (bnn s)) ∧ (bGr s = bRd f t (bOpn s (bnn s))) ∧ ((∀ j : Nat, j < bOpn s (bnn s) → f j < bnn s)) ∧ ((∀ j : Nat, j < bOpn s (bnn s) → I1 103 j = f j)) ∧ (zBA b (bRd f t k) I1 L1) ∧ (bGd (bRd f t k) ∧ (∀ c, c < 1024 → bhi (bRd f t k) c ≤ hb_ + k) ∧ (∀ m, m < bnn (bRd f t k) → 0 ≤ bN (bRd f t k) m 4 ∧ bN (bRd f t k) m 4 ≤ rb + 5 * k) ∧ bnn (bRd f t k) = bnn s) ∧ (∀ c j : Nat, ¬ c = 85 → ¬ c = 86 → ¬ c = 91 → ¬ c = 92 → ¬ c = 93 → ¬ c = 101 → ¬ c = 99 → ¬ c = 100 → ¬ (c = 98 ∧ j = 5) → ¬ c = 103 → I1 c j = I c j) ∧ (∀ c j : Nat, ¬ c = 102 → ¬ (c = 82 ∧ j = 4) → L1 c j = L c j)
      | _ => False, rfl, ?_, ⟨?_, ?_, ?_, True.intro⟩⟩
  · refine ⟨(4, (13 - (0 : Nat)), 0), [some (zvr (98)), some (zvi (bOpn s (0 : Nat))), some (zvi ((0 : Nat))), none, none], ⟨rfl, (congrArg (fun z => some (zvi z)) rfl), rfl, rfl⟩, 0, rfl, rfl, rfl, rfl, rfl, rfl, (by omega), (fun j h => absurd h (Nat.not_lt_zero j)), (fun c j h0 => rfl)⟩
  · rintro nM lsM stM I1 L1 R1 S1 hz1 ⟨k, rfl, rfl, rfl, rfl, rfl, rfl, hk, ho, fr⟩
    have hok := hop k
    refine And.intro (zA_98 hS) (zrdR (v := some 82) (zR_98_0 hR) ?_)
    refine And.intro (zA_82 hS) (zrdR (v := some 90) (zR_82_11 hR) ?_)
    refine And.intro (zA_90 hS) (zrd (v := (bnn s)) ((fr 90 2 (by omega)).trans hN2) ?_)
    refine And.intro ⟨(by omega), (by omega)⟩ ⟨fun h15 => ?_, fun h15 => ?_⟩
    · refine ⟨(3, (((bOpn s k : Int) - 1) + 1 : Int).toNat, 0), zlt6 (by omega), [some (zvr (98)), some (zvi (bOpn s (bnn s))), some (zvi (((bOpn s k : Int) - 1))), none, none], ⟨rfl, (congrArg (fun z => some (zvi z)) (by rw [show k = bnn s by omega])), (congrArg (fun z => some (zvi z)) (by omega)), rfl⟩, s, (bOf s (bnn s)), ((bOpn s k : Int) - 1), rfl, rfl, rfl, rfl, rfl, (by rw [show k = bnn s by omega]; omega), (by rw [show k = bnn s by omega, show ((bOpn s (bnn s) : Int) - 1).toNat = bOpn s (bnn s) - 1 by omega]), rfl, (zBA_fr hBA (fun c j h => fr c j (by omega)) (fun c j h => rfl)), (by have e : k = bnn s := (by omega); subst e; exact ho), (fun j hj => bOf_lt s (bnn s) j hj), (fun c j h0 => ((fr c j (by omega)).trans rfl)), (fun c j h0 => rfl)⟩
    · refine And.intro (zA_98 hS) (zrdR (v := some 82) (zR_98_0 hR) ?_)
      refine And.intro (zA_82 hS) ⟨_, sn_A_open.up (by decide), ?_⟩
      refine ⟨b, s, (k : Int), rfl, hS, hR, (by first | exact (zBA_fr hBA (fun c j h => ((fr c j (by omega)).trans rfl)) (fun c j h => rfl)) | (clear hQ; grind [xu])), (by omega), ?_⟩
      intro v23o p23hv
      refine And.intro (by omega) ⟨fun h26 => ?_, fun h26 => ?_⟩
      · refine ⟨(4, (13 - (k + 1)), 0), zlt6 (by omega), [some (zvr (98)), some (zvi (bOpn s (k + 1))), some (zvi ((k + 1))), none, none], ⟨rfl, (congrArg (fun z => some (zvi z)) (by
  have e : bOpn s (k + 1) = bOpn s k + (if 0 < bN s k 1 ∧ bN s k 2 ≠ 1 then 1 else 0) := rfl
  have ek : ((k : Int)).toNat = k := rfl
  rcases p23hv with w | w
  · have w3 := w.2.2.2
    rw [ek] at w3
    rw [e, if_pos w3]
    omega
  · have w3 := w.2
    rw [ek] at w3
    rw [e, if_neg (fun q => w3 ⟨by omega, by omega, q.1, q.2⟩)]
    omega)), rfl, rfl⟩, (k + 1), rfl, rfl, rfl, rfl, rfl, rfl, (by omega), ?_, (fun c j h0 => ((fr c j (by omega)).trans rfl))⟩
        · have e : bOpn s (k + 1) = bOpn s k + (if 0 < bN s k 1 ∧ bN s k 2 ≠ 1 then 1 else 0) := rfl
          have e2 : bOf s (k + 1) = if 0 < bN s k 1 ∧ bN s k 2 ≠ 1 then upF (bOf s k) (bOpn s k) k else bOf s k := rfl
          have ek : ((k : Int)).toNat = k := rfl
          rcases p23hv with w | w
          · first
            | (exfalso; omega)
            | (have w3 := w.2.2.2
               rw [ek] at w3
               rw [e, e2, if_pos w3, if_pos w3]
               intro j hj
               by_cases q : j = bOpn s k
               · rw [q, upF_at]
                 exact zxe
               · rw [upF_ne q]
                 exact zxs (by omega) (ho j (by omega)))
          · first
            | (exfalso; omega)
            | (have w3 := w.2
               rw [ek] at w3
               have w4 : ¬ (0 < bN s k 1 ∧ bN s k 2 ≠ 1) := fun q => w3 ⟨by omega, by omega, q.1, q.2⟩
               rw [e, e2, if_neg w4, if_neg w4]
               exact ho)
      · refine And.intro (zA_98 hS) (zrdR (v := some 103) (zR_98_6 hR) ?_)
        refine And.intro ⟨(zx0 rfl), (zP_103 hS (by omega) (by omega))⟩ ⟨_, (zWi (by omega)), ?_⟩
        refine ⟨(4, (13 - (k + 1)), 0), zlt6 (by omega), [some (zvr (98)), some (zvi (bOpn s (k + 1))), some (zvi ((k + 1))), none, none], ⟨rfl, (congrArg (fun z => some (zvi z)) (by
  have e : bOpn s (k + 1) = bOpn s k + (if 0 < bN s k 1 ∧ bN s k 2 ≠ 1 then 1 else 0) := rfl
  have ek : ((k : Int)).toNat = k := rfl
  rcases p23hv with w | w
  · have w3 := w.2.2.2
    rw [ek] at w3
    rw [e, if_pos w3]
    omega
  · have w3 := w.2
    rw [ek] at w3
    rw [e, if_neg (fun q => w3 ⟨by omega, by omega, q.1, q.2⟩)]
    omega)), rfl, rfl⟩, (k + 1), rfl, rfl, rfl, rfl, rfl, rfl, (by omega), ?_, (fun c j h0 => (zxu h0 ((fr c j (by omega)).trans rfl)))⟩
        · have e : bOpn s (k + 1) = bOpn s k + (if 0 < bN s k 1 ∧ bN s k 2 ≠ 1 then 1 else 0) := rfl
          have e2 : bOf s (k + 1) = if 0 < bN s k 1 ∧ bN s k 2 ≠ 1 then upF (bOf s k) (bOpn s k) k else bOf s k := rfl
          have ek : ((k : Int)).toNat = k := rfl
          rcases p23hv with w | w
          · first
            | (exfalso; omega)
            | (have w3 := w.2.2.2
               rw [ek] at w3
               rw [e, e2, if_pos w3, if_pos w3]
               intro j hj
               by_cases q : j = bOpn s k
               · rw [q, upF_at]
                 exact zxe
               · rw [upF_ne q]
                 exact zxs (by omega) (ho j (by omega)))
          · first
            | (exfalso; omega)
            | (have w3 := w.2
               rw [ek] at w3
               have w4 : ¬ (0 < bN s k 1 ∧ bN s k 2 ≠ 1) := fun q => w3 ⟨by omega, by omega, q.1, q.2⟩
               rw [e, e2, if_neg w4, if_neg w4]
               exact ho)
  · rintro nM lsM stM I1 L1 R1 S1 hz1 ⟨t, f, z, rfl, rfl, rfl, rfl, rfl, hz, hlk, ht, hB, ho, hf, fr, frL⟩
    have hok := hop (bnn s)
    refine And.intro (by omega) ⟨fun h50 => ?_, fun h50 => ?_⟩
    · refine ⟨(2, (13 - (0 : Nat)), 0), zlt6 (by omega), [some (zvr (98)), some (zvi (bOpn s (bnn s))), some (zvi ((0 : Nat))), none, none], ⟨rfl, rfl, rfl, rfl⟩, t, f, 0, rfl, rfl, rfl, rfl, rfl, (by omega), (by unfold bGr; rw [← hlk, show z.toNat = 0 by omega]; rfl), (by first | exact hf | (clear hQ; grind [xu])), (by first | exact ho | (clear hQ; grind [xu])), hB, ?_, (fun c j h0 h1 h2 h3 h4 h5 h6 h7 h8 h9 => ((fr c j (by omega)).trans rfl)), (fun c j h0 h1 => ((frL c j (by omega)).trans rfl))⟩
      · rw [show bRd f t 0 = t from rfl, ht]
        refine ⟨hGd, hhi, fun m hm => ?_, rfl⟩
        show 0 ≤ bN s m 4 ∧ bN s m 4 ≤ (rb : Int) + 5 * ((0 : Nat) : Int)
        have := hrp m hm
        omega
    · refine And.intro (zA_98 hS) ⟨_, sn_A_draw.up (by decide), ?_⟩
      refine ⟨b, t, rfl, hS, hR, hB, ?_⟩
      intro v54o L54o p54hv p54bhBA2 p54bbfrL
      have g54 : 0 ≤ v54o := (by rw [p54hv]; exact (zlushr33 _).1)
      have g54b : v54o ≤ 2147483647 := (by rw [p54hv]; have := (zlushr33 (bSe t)).2; unfold bDr; omega)
      refine And.intro (by omega) ?_
      refine ⟨_, _, ⟨(zW6i (by omega)), (zW6i (by omega)), (by omega)⟩, (zdv (by omega) (fun q61 e61 => ?_))⟩
      have f61 : 0 ≤ q61 ∧ q61 ≤ z := (by rw [e61]; exact ⟨Int.emod_nonneg _ (by omega), by have := Int.emod_lt_of_pos v54o (show 0 < z + 1 by omega); omega⟩)
      refine ⟨_, (zWi (by omega)), ?_⟩
      refine And.intro (zA_98 hS) (zrdR (v := some 103) (zR_98_6 hR) ?_)
      refine And.intro (zP_103 hS (by omega) (by omega)) (fun v69 e69 r69 => ?_)
      have f69 : v69 = f z.toNat := (e69.trans (ho z.toNat (by omega)))
      refine And.intro (zA_98 hS) (zrdR (v := some 103) (zR_98_6 hR) ?_)
      refine And.intro (zA_98 hS) (zrdR (v := some 103) (zR_98_6 hR) ?_)
      refine And.intro (zP_103 hS (by omega) (by omega)) (fun v82 e82 r82 => ?_)
      have f82 : v82 = f q61.toNat := (e82.trans (ho q61.toNat (by omega)))
      refine And.intro ⟨(zx0 rfl), (zP_103 hS (by omega) (by omega))⟩ ⟨_, (zWi r82), ?_⟩
      refine And.intro (zA_98 hS) (zrdR (v := some 103) (zR_98_6 hR) ?_)
      refine And.intro ⟨(zx0 rfl), (zP_103 hS (by omega) (by omega))⟩ ⟨_, (zWi r69), ?_⟩
      refine ⟨(3, ((z + (-1)) + 1 : Int).toNat, 0), zlt6 (by omega), [some (zvr (98)), some (zvi (bOpn s (bnn s))), some (zvi ((z + (-1)))), none, none], ⟨rfl, rfl, rfl, rfl⟩, (bs_sd t (bSe t)), (upF (upF f z.toNat (f q61.toNat)) q61.toNat (f z.toNat)), (z + (-1)), rfl, rfl, rfl, rfl, rfl, (by omega), ?_, (by rw [ht]), (zBA_fr p54bhBA2 (fun c j h => zxu (by omega) (zxu (by omega) rfl)) (fun c j h => rfl)), ?_, ?_, (fun c j h0 => (zxu h0 (zxu h0 ((fr c j (by omega)).trans rfl)))), (fun c j h0 => ((p54bbfrL c j (by omega)).trans ((frL c j (by omega)).trans rfl)))⟩
      · obtain ⟨k, hk⟩ : ∃ k, z.toNat = k + 1 := ⟨z.toNat - 1, by omega⟩
        have e7 : (bDr t % ((k : Int) + 2)) = q61 := by rw [e61, p54hv, show z + 1 = (k : Int) + 2 by omega]
        have e8 : bSw (k + 1) (t, f) = bSw k (bs_sd t (bSe t), upF (upF f (k + 1) (f (bDr t % ((k : Int) + 2)).toNat)) (bDr t % ((k : Int) + 2)).toNat (f (k + 1))) := rfl
        rw [hk, e8, e7] at hlk
        rw [hk, show (z + (-1)).toNat = k by omega]
        exact hlk
      · intro j hj
        unfold upF
        by_cases e : j = q61.toNat
        · rw [if_pos e, e]
          exact zxe.trans f69
        · rw [if_neg e]
          refine zxs e ?_
          by_cases e2 : j = z.toNat
          · rw [if_pos e2, e2]
            exact zxe.trans f82
          · rw [if_neg e2]
            exact zxs e2 (ho j hj)
      · intro j hj
        unfold upF
        split
        · exact hf _ (by omega)
        · split
          · exact hf _ (by omega)
          · exact hf j hj
  · rintro nM lsM stM I1 L1 R1 S1 hz1 ⟨t, f, k, rfl, rfl, rfl, rfl, rfl, hk, hlk, hf, ho, hB, hG, fr, frL⟩
    have hok := hop (bnn s)
    refine And.intro ⟨(by omega), (by omega)⟩ ⟨fun h102 => ?_, fun h102 => ?_⟩
    · refine hQ _ _ (by rw [hlk, show bOpn s (bnn s) = k by omega]; exact hB) ?_ (fun c j h0 h1 h2 h3 h4 h5 h6 h7 h8 h9 => ((fr c j (by omega) (by omega) (by omega) (by omega) (by omega) (by omega) (by omega) (by omega) (by omega) (by omega)).trans rfl)) (fun c j h0 h1 => ((frL c j (by omega) (by omega)).trans rfl))
      · rw [hlk, show bOpn s (bnn s) = k by omega]
        obtain ⟨h1, h2, h3, h4⟩ := id hG
        exact ⟨h1, fun c hc => by have := h2 c hc; omega, fun m hm => by have := h3 m hm; omega, h4⟩
    · refine And.intro (zA_98 hS) (zrdR (v := some 82) (zR_98_0 hR) ?_)
      refine And.intro (zA_98 hS) (zrdR (v := some 103) (zR_98_6 hR) ?_)
      refine And.intro (zP_103 hS (by omega) (by omega)) (fun v114 e114 r114 => ?_)
      have f114 : v114 = f k := (e114.trans (ho k (by omega)))
      refine And.intro (zA_82 hS) ⟨_, sn_A_open.up (by decide), ?_⟩
      refine ⟨b, (bRd f t k), (v114 : Int), rfl, hS, hR, hB, (by omega), ?_⟩
      intro v115o p115hv
      refine And.intro (by omega) ⟨fun h118 => ?_, fun h118 => ?_⟩
      · refine ⟨(2, (13 - (k + 1)), 0), zlt6 (by omega), [some (zvr (98)), some (zvi (bOpn s (bnn s))), some (zvi ((k + 1))), none, none], ⟨rfl, rfl, rfl, rfl⟩, t, f, (k + 1), rfl, rfl, rfl, rfl, rfl, (by omega), (by omega), (by first | exact hf | (clear hQ; grind [xu])), (by first | exact ho | (clear hQ; grind [xu])), ?_, ?_, (fun c j h0 h1 h2 h3 h4 h5 h6 h7 h8 h9 => ((fr c j (by omega) (by omega) (by omega) (by omega) (by omega) (by omega) (by omega) (by omega) (by omega) (by omega)).trans rfl)), (fun c j h0 h1 => ((frL c j (by omega) (by omega)).trans rfl))⟩
        · have e0 : bRd f t (k + 1) = if 0 < bN (bRd f t k) (f k) 1 ∧ bN (bRd f t k) (f k) 2 ≠ 1 then bLd (bRd f t k) (f k) else bRd f t k := rfl
          rw [show v114.toNat = f k by omega] at p115hv
          rcases p115hv with w | w
          · first
            | (exfalso; omega)
            | (rw [e0, if_pos w.2.2.2]
               exact p128hBA2)
          · first
            | (exfalso; omega)
            | (rw [e0, if_neg (fun q => w.2 ⟨by omega, by have := hf k (by omega); have := hG.2.2.2; omega, q.1, q.2⟩)]
               exact hB)
        · have e0 : bRd f t (k + 1) = if 0 < bN (bRd f t k) (f k) 1 ∧ bN (bRd f t k) (f k) 2 ≠ 1 then bLd (bRd f t k) (f k) else bRd f t k := rfl
          obtain ⟨h1, h2, h3, h4⟩ := id hG
          rw [e0]
          by_cases w : 0 < bN (bRd f t k) (f k) 1 ∧ bN (bRd f t k) (f k) 2 ≠ 1
          · rw [if_pos w]
            have hn : f k < bnn (bRd f t k) := by rw [h4]; exact hf k (by omega)
            have g := bLd_gd (hb := hb_ + k) (rb := rb + 5 * k) h1 hn w.1 (bGd_02 h1 hn w.2) h2 (fun m hm => by have := h3 m hm; omega)
            exact ⟨g.1, fun c hc => by have := g.2.1 c hc; omega, fun m hm => by have := g.2.2 m hm; omega, (bLd_kp _ _).2.2.2.2.2.2.1.trans h4⟩
          · rw [if_neg w]
            exact ⟨h1, fun c hc => by have := h2 c hc; omega, fun m hm => by have := h3 m hm; omega, h4⟩
      · refine And.intro (zA_98 hS) (zrdR (v := some 103) (zR_98_6 hR) ?_)
        refine And.intro (zP_103 hS (by omega) (by omega)) (fun v127 e127 r127 => ?_)
        have f127 : v127 = f k := (e127.trans (ho k (by omega)))
        refine And.intro (zA_98 hS) ⟨_, sn_A_lead.up (by decide), ?_⟩
        refine ⟨b, (bRd f t k), (f k), (v127 : Int), (hb_ + k), (rb + 5 * k), rfl, hS, hR, hB, hG.1, ⟨by omega, by rw [hG.2.2.2]; exact hf k (by omega)⟩, (by have w := (p115hv.resolve_right (fun w => by have := w.1; omega)).2.2.2.1; rw [show v114.toNat = f k by omega] at w; exact w), (bGd_02 hG.1 (by rw [hG.2.2.2]; exact hf k (by omega)) (by have w := (p115hv.resolve_right (fun w => by have := w.1; omega)).2.2.2.2; rw [show v114.toNat = f k by omega] at w; exact w)), hG.2.1, (fun m hm => by have := hG.2.2.1 m hm; omega), (by omega), (by omega), ?_⟩
        intro I128o L128o p128hBA2 p128bfr p128bbfrL
        refine ⟨(2, (13 - (k + 1)), 0), zlt6 (by omega), [some (zvr (98)), some (zvi (bOpn s (bnn s))), some (zvi ((k + 1))), none, none], ⟨rfl, rfl, rfl, rfl⟩, t, f, (k + 1), rfl, rfl, rfl, rfl, rfl, (by omega), (by omega), (by first | exact hf | (clear hQ; grind [xu])), (by first | exact ho | (clear hQ; grind [xu])), ?_, ?_, (fun c j h0 h1 h2 h3 h4 h5 h6 h7 h8 h9 => ((p128bfr c j (by omega) (by omega) (by omega) (by omega) (by omega) (by omega) (by omega) (by omega) (by omega)).trans ((fr c j (by omega) (by omega) (by omega) (by omega) (by omega) (by omega) (by omega) (by omega) (by omega) (by omega)).trans rfl))), (fun c j h0 h1 => ((p128bbfrL c j (by omega)).trans ((frL c j (by omega) (by omega)).trans rfl)))⟩
        · have e0 : bRd f t (k + 1) = if 0 < bN (bRd f t k) (f k) 1 ∧ bN (bRd f t k) (f k) 2 ≠ 1 then bLd (bRd f t k) (f k) else bRd f t k := rfl
          rw [show v114.toNat = f k by omega] at p115hv
          rcases p115hv with w | w
          · first
            | (exfalso; omega)
            | (rw [e0, if_pos w.2.2.2]
               exact p128hBA2)
          · first
            | (exfalso; omega)
            | (rw [e0, if_neg (fun q => w.2 ⟨by omega, by have := hf k (by omega); have := hG.2.2.2; omega, q.1, q.2⟩)]
               exact hB)
        · have e0 : bRd f t (k + 1) = if 0 < bN (bRd f t k) (f k) 1 ∧ bN (bRd f t k) (f k) 2 ≠ 1 then bLd (bRd f t k) (f k) else bRd f t k := rfl
          obtain ⟨h1, h2, h3, h4⟩ := id hG
          rw [e0]
          by_cases w : 0 < bN (bRd f t k) (f k) 1 ∧ bN (bRd f t k) (f k) 2 ≠ 1
          · rw [if_pos w]
            have hn : f k < bnn (bRd f t k) := by rw [h4]; exact hf k (by omega)
            have g := bLd_gd (hb := hb_ + k) (rb := rb + 5 * k) h1 hn w.1 (bGd_02 h1 hn w.2) h2 (fun m hm => by have := h3 m hm; omega)
            exact ⟨g.1, fun c hc => by have := g.2.1 c hc; omega, fun m hm => by have := g.2.2 m hm; omega, (bLd_kp _ _).2.2.2.2.2.2.1.trans h4⟩
          · rw [if_neg w]
            exact ⟨h1, fun c hc => by have := h2 c hc; omega, fun m hm => by have := h3 m hm; omega, h4⟩)
