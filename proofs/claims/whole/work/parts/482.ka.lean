/-! ka -/
def T_K_peek : ZT := fun args I L R S Q => ∃ (c : Nat → Int) (n : Nat) (p : Nat), args = [zvr 61] ∧ (zSh S) ∧ (zRs R) ∧ (R 61 0 = some 42) ∧ (zRD c n I) ∧ (tOk c n) ∧ (I 61 2 = p) ∧ (p ≤ 6000) ∧ ∀ (v : Int), (v = c p) → ((-1 ≤ v ∧ v ≤ 126) ∧ (v = -1 ∨ p < n)) → Q (some (zvi (v))) I L R S
theorem sn_K_peek : ZSnd 1 9 14 T_K_peek := ZSnd.of (zT9_14 0) (by
  rintro args I L R S Q hz ⟨c, n, p, rfl, hS, hR, htx, hX, hc, hp, hp9, hQ⟩
  obtain ⟨x1, x2⟩ := id hX
  have hn4 := hc.1
  have cb := tOk_b (p := p) hc
  refine And.intro rfl ?_
  refine And.intro (zA_61 hS) (zrd (v := p) hp ?_)
  refine And.intro (zA_61 hS) (zrd (v := n) x1 ?_)
  refine And.intro ⟨(by omega), (by omega)⟩ ⟨fun h8 => ?_, fun h8 => ?_⟩
  · refine hQ _ (by first | omega | exact (cb.1 (by omega)).symm) (by have cb3 := cb.2.2; omega)
  · refine And.intro (zA_61 hS) (zrdR (v := some 42) htx ?_)
    refine And.intro (zA_61 hS) (zrd (v := p) hp ?_)
    refine And.intro (zP_42 hS (by omega) (by omega)) (fun v19 e19 r19 => ?_)
    have f19 : v19 = c p := (e19.trans ((congrArg (I 42) (by omega)).trans (x2 p (by omega))))
    refine hQ _ (by first | omega | exact (cb.1 (by omega)).symm) (by have cb3 := cb.2.2; omega))
def T_K_skB : ZT := fun args I L R S Q => ∃ (c : Nat → Int) (n : Nat) (p : Nat), args = [zvr 61] ∧ (zSh S) ∧ (zRs R) ∧ (R 61 0 = some 42) ∧ (zRD c n I) ∧ (tOk c n) ∧ (I 61 2 = p) ∧ (p ≤ 5000) ∧ ∀ (I' : ZI), (I' 61 2 = tSk tBk c n p) → (∀ c j : Nat, ¬ (c = 61 ∧ j = 2) → I' c j = I c j) → Q none I' L R S
theorem sn_K_skB : ZSnd 1 9 25 T_K_skB := ZSnd.loops (zT9_25 0) (by
  rintro args I L R S Q hz ⟨c, n, p, rfl, hS, hR, htx, hX, hc, hp, hp9, hQ⟩
  obtain ⟨x1, x2⟩ := id hX
  have hn4 := hc.1
  refine ⟨[0], fun nM tM lsM stM I1 L1 R1 S1 => match tM with
      | 0 => ∃ (q : Nat), nM = ((4001 - q), 0, 0) ∧ lsM = [some (zvr (61))] ∧ stM = [] ∧ L1 = L ∧ R1 = R ∧ S1 = S ∧ (p ≤ q ∧ (q ≤ n ∨ q = p)) ∧ (I1 61 2 = q) ∧ (∀ i, p ≤ i → i < q → tBk (c i)) ∧ (∀ c j : Nat, ¬ (c = 61 ∧ j = 2) → I1 c j = I c j)
      | _ => False, rfl, ?_, ⟨?_, True.intro⟩⟩
  · refine And.intro (zA_61 hS) (zrd (v := p) hp ?_)
    refine And.intro (zA_61 hS) (zrd (v := n) x1 ?_)
    refine And.intro ⟨(by omega), (by omega)⟩ ⟨fun h8 => ?_, fun h8 => ?_⟩
    · refine hQ _ ?_ (fun c j h0 => rfl)
      · refine hp.trans (congrArg Nat.cast (tSk_at (Nat.le_refl p) (by omega) (fun i h1 h2 => by omega) ?_).symm)
        first
        | (unfold tBk; omega)
        | (rw [hc.2.2 p (by omega)]; unfold tBk; omega)
    · refine And.intro (zA_61 hS) (zrdR (v := some 42) htx ?_)
      refine And.intro (zA_61 hS) (zrd (v := p) hp ?_)
      refine And.intro (zP_42 hS (by omega) (by omega)) (fun v19 e19 r19 => ?_)
      have f19 : v19 = c p := (e19.trans ((congrArg (I 42) (by omega)).trans (x2 p (by omega))))
      refine And.intro ⟨r19, (zRb rfl)⟩ ⟨fun h22 => ?_, fun h22 => ?_⟩
      · refine And.intro (zA_61 hS) (zrd (v := p) hp ?_)
        refine And.intro (zA_61 hS) ⟨_, (zWi (by omega)), ?_⟩
        refine ⟨((4001 - (p + 1)), 0, 0), [some (zvr (61))], ⟨rfl, rfl⟩, (p + 1), rfl, rfl, rfl, rfl, rfl, rfl, (by clear hQ; grind [xu]), rfl, (fun i h1 h2 => by have e : i = p := (by omega); rw [e]; unfold tBk; omega), (fun c j h0 => (zxcj h0 rfl))⟩
      · refine And.intro (zA_61 hS) (zrdR (v := some 42) htx ?_)
        refine And.intro (zA_61 hS) (zrd (v := p) hp ?_)
        refine And.intro (zP_42 hS (by omega) (by omega)) (fun v33 e33 r33 => ?_)
        have f33 : v33 = c p := (e33.trans ((congrArg (I 42) (by omega)).trans (x2 p (by omega))))
        refine And.intro ⟨r33, (zRb rfl)⟩ ⟨fun h36 => ?_, fun h36 => ?_⟩
        · refine hQ _ ?_ (fun c j h0 => rfl)
          · refine hp.trans (congrArg Nat.cast (tSk_at (Nat.le_refl p) (by omega) (fun i h1 h2 => by omega) ?_).symm)
            first
            | (unfold tBk; omega)
            | (rw [hc.2.2 p (by omega)]; unfold tBk; omega)
        · refine And.intro (zA_61 hS) (zrd (v := p) hp ?_)
          refine And.intro (zA_61 hS) ⟨_, (zWi (by omega)), ?_⟩
          refine ⟨((4001 - (p + 1)), 0, 0), [some (zvr (61))], ⟨rfl, rfl⟩, (p + 1), rfl, rfl, rfl, rfl, rfl, rfl, (by clear hQ; grind [xu]), rfl, (fun i h1 h2 => by have e : i = p := (by omega); rw [e]; unfold tBk; omega), (fun c j h0 => (zxcj h0 rfl))⟩
  · rintro nM lsM stM I1 L1 R1 S1 hz1 ⟨q, rfl, rfl, rfl, rfl, rfl, rfl, hq, hpl, hb, fr⟩
    refine And.intro (zA_61 hS) (zrd (v := q) hpl ?_)
    refine And.intro (zA_61 hS) (zrd (v := n) ((fr 61 1 (by omega)).trans x1) ?_)
    refine And.intro ⟨(by omega), (by omega)⟩ ⟨fun h8 => ?_, fun h8 => ?_⟩
    · refine hQ _ ?_ (fun c j h0 => ((fr c j (by omega)).trans rfl))
      · refine hpl.trans (congrArg Nat.cast (tSk_at hq.1 (by omega) hb ?_).symm)
        first
        | (unfold tBk; omega)
        | (rw [hc.2.2 q (by omega)]; unfold tBk; omega)
    · refine And.intro (zA_61 hS) (zrdR (v := some 42) htx ?_)
      refine And.intro (zA_61 hS) (zrd (v := q) hpl ?_)
      refine And.intro (zP_42 hS (by omega) (by omega)) (fun v19 e19 r19 => ?_)
      have f19 : v19 = c q := (e19.trans ((congrArg (I1 42) (by omega)).trans ((fr 42 _ (by omega)).trans (x2 q (by omega)))))
      refine And.intro ⟨r19, (zRb rfl)⟩ ⟨fun h22 => ?_, fun h22 => ?_⟩
      · refine And.intro (zA_61 hS) (zrd (v := q) hpl ?_)
        refine And.intro (zA_61 hS) ⟨_, (zWi (by omega)), ?_⟩
        refine ⟨((4001 - (q + 1)), 0, 0), zlt6 (by omega), [some (zvr (61))], ⟨rfl, rfl⟩, (q + 1), rfl, rfl, rfl, rfl, rfl, rfl, (by first | exact hq | (clear hQ; grind [xu])), rfl, ?_, (fun c j h0 => (zxcj h0 ((fr c j (by omega)).trans rfl)))⟩
        · intro i h1 h2
          by_cases e : i = q
          · rw [e]; unfold tBk; omega
          · exact hb i h1 (by omega)
      · refine And.intro (zA_61 hS) (zrdR (v := some 42) htx ?_)
        refine And.intro (zA_61 hS) (zrd (v := q) hpl ?_)
        refine And.intro (zP_42 hS (by omega) (by omega)) (fun v33 e33 r33 => ?_)
        have f33 : v33 = c q := (e33.trans ((congrArg (I1 42) (by omega)).trans ((fr 42 _ (by omega)).trans (x2 q (by omega)))))
        refine And.intro ⟨r33, (zRb rfl)⟩ ⟨fun h36 => ?_, fun h36 => ?_⟩
        · refine hQ _ ?_ (fun c j h0 => ((fr c j (by omega)).trans rfl))
          · refine hpl.trans (congrArg Nat.cast (tSk_at hq.1 (by omega) hb ?_).symm)
            first
            | (unfold tBk; omega)
            | (rw [hc.2.2 q (by omega)]; unfold tBk; omega)
        · refine And.intro (zA_61 hS) (zrd (v := q) hpl ?_)
          refine And.intro (zA_61 hS) ⟨_, (zWi (by omega)), ?_⟩
          refine ⟨((4001 - (q + 1)), 0, 0), zlt6 (by omega), [some (zvr (61))], ⟨rfl, rfl⟩, (q + 1), rfl, rfl, rfl, rfl, rfl, rfl, (by first | exact hq | (clear hQ; grind [xu])), rfl, ?_, (fun c j h0 => (zxcj h0 ((fr c j (by omega)).trans rfl)))⟩
          · intro i h1 h2
            by_cases e : i = q
            · rw [e]; unfold tBk; omega
            · exact hb i h1 (by omega))
def T_K_dig : ZT := fun args I L R S Q => ∃ (c : Nat → Int) (n : Nat) (p : Nat) (m : Int) (m_ : Nat), args = [zvr 61, zvi m] ∧ (zSh S) ∧ (zRs R) ∧ (R 61 0 = some 42) ∧ (zRD c n I) ∧ (tOk c n) ∧ (I 61 2 = p) ∧ (p ≤ 5000) ∧ (m = m_ ∧ 1 ≤ m_ ∧ m_ ≤ 6) ∧ (I 61 3 = -1) ∧ ∀ (v : Int) (I' : ZI), (I' 61 2 = tDe c n p m_) → (v = tVl c p (tDe c n p m_ - p)) → ((¬ tBd c p (tDe c n p m_) ∧ I' 61 3 = -1) ∨ (tBd c p (tDe c n p m_) ∧ I' 61 3 = tDe c n p m_)) → (∀ c j : Nat, ¬ (c = 61 ∧ j = 2) → ¬ (c = 61 ∧ j = 3) → I' c j = I c j) → Q (some (zvl (v))) I' L R S
theorem sn_K_dig : ZSnd 2 9 28 T_K_dig := ZSnd.loops (zT9_28 1) (by
  rintro args I L R S Q hz ⟨c, n, p, m, m_, rfl, hS, hR, htx, hX, hc, hp, hp9, hm, hf0, hQ⟩
  obtain ⟨x1, x2⟩ := id hX
  have hn4 := hc.1
  refine ⟨[5], fun nM tM lsM stM I1 L1 R1 S1 => match tM with
      | 5 => ∃ (k : Nat) (v : Int), nM = ((7 - k), 0, 0) ∧ lsM = [some (zvr (61)), some (zvi (m_)), some (zvl (v)), none, some (zvi (k))] ∧ stM = [] ∧ L1 = L ∧ R1 = R ∧ S1 = S ∧ (k ≤ m_) ∧ (I1 61 2 = p + k) ∧ (I1 61 3 = -1) ∧ (v = tVl c p k) ∧ (0 ≤ v ∧ v ≤ 999999) ∧ (∀ i, p ≤ i → i < p + k → tDt (c i)) ∧ (∀ c j : Nat, ¬ (c = 61 ∧ j = 2) → I1 c j = I c j)
      | _ => False, rfl, ?_, ⟨?_, True.intro⟩⟩
  · refine ⟨((7 - (0 : Nat)), 0, 0), [some (zvr (61)), some (zvi (m_)), some (zvl ((0 : Int))), none, some (zvi ((0 : Nat)))], ⟨rfl, (congrArg (fun z => some (zvi z)) (by omega)), rfl, rfl, rfl⟩, 0, 0, rfl, rfl, rfl, rfl, rfl, rfl, (by omega), (Eq.trans (b := (p : Int)) hp (by omega)), (Eq.trans (b := ((-1) : Int)) hf0 (by omega)), rfl, (by omega), (fun i h1 h2 => by omega), (fun c j h0 => rfl)⟩
  · rintro nM lsM stM I1 L1 R1 S1 hz1 ⟨k, v, rfl, rfl, rfl, rfl, rfl, rfl, hk, hpl, hf1, hv, hvb, hb, fr⟩
    have vb := tVl_b hb (Nat.le_refl k)
    refine And.intro ⟨(by omega), (by omega)⟩ ⟨fun h8 => ?_, fun h8 => ?_⟩
    · refine And.intro (by omega) ⟨(fun h55 => False.elim (by omega)), fun h55 => ?_⟩
      refine And.intro (zA_61 hS) ⟨_, sn_K_peek.up (by decide), ?_⟩
      refine ⟨c, n, (p + k), rfl, hS, hR, htx, (by first | exact (zRD_fr hX (fun c j h => ((fr c j (by omega)).trans rfl))) | (clear hQ; grind [xu])), (by first | exact hc | (clear hQ; grind [xu])), hpl, (by omega), ?_⟩
      intro v59o p59hv p59bhv2
      refine Exists.intro _ (And.intro (zinl_ok (zT9_7 0)) (And.intro rfl ?_))
      refine And.intro ⟨(by omega), (zRb rfl)⟩ ⟨fun h3_62 => ?_, fun h3_62 => ?_⟩
      · refine And.intro (Or.inl rfl) ?_
        refine And.intro (zRb rfl) (zbt rfl ?_)
        refine hQ _ _ ?_ ?_ ?_ (fun c j h0 h1 => ((fr c j (by omega)).trans rfl))
        · have e : tDe c n p m_ = p + k := tDe_at hc (by omega) (by omega) (fun i h1 h2 => hb i h1 h2) (by first | exact Or.inl (by omega) | exact Or.inr (by unfold tDt; omega))
          rw [e]
          first
          | exact hpl
          | exact hpl.trans (by omega)
          | exact (zxs (by decide) hpl).trans (by omega)
        · have e : tDe c n p m_ = p + k := tDe_at hc (by omega) (by omega) (fun i h1 h2 => hb i h1 h2) (by first | exact Or.inl (by omega) | exact Or.inr (by unfold tDt; omega))
          rw [e, show p + k - p = k by omega]
          exact hv
        · have e : tDe c n p m_ = p + k := tDe_at hc (by omega) (by omega) (fun i h1 h2 => hb i h1 h2) (by first | exact Or.inl (by omega) | exact Or.inr (by unfold tDt; omega))
          rw [e]
          first
          | exact Or.inl ⟨fun w => by unfold tBd tDt at w; omega, hf1⟩
          | exact Or.inr ⟨by unfold tBd tDt; omega, zxe⟩
          | exact Or.inr ⟨by unfold tBd tDt; omega, zxe.trans (by omega)⟩
      · refine And.intro ⟨(by omega), (zRb rfl)⟩ ⟨fun h9_62 => ?_, fun h9_62 => ?_⟩
        · refine And.intro (Or.inl rfl) ?_
          refine And.intro (zRb rfl) (zbt rfl ?_)
          refine hQ _ _ ?_ ?_ ?_ (fun c j h0 h1 => ((fr c j (by omega)).trans rfl))
          · have e : tDe c n p m_ = p + k := tDe_at hc (by omega) (by omega) (fun i h1 h2 => hb i h1 h2) (by first | exact Or.inl (by omega) | exact Or.inr (by unfold tDt; omega))
            rw [e]
            first
            | exact hpl
            | exact hpl.trans (by omega)
            | exact (zxs (by decide) hpl).trans (by omega)
          · have e : tDe c n p m_ = p + k := tDe_at hc (by omega) (by omega) (fun i h1 h2 => hb i h1 h2) (by first | exact Or.inl (by omega) | exact Or.inr (by unfold tDt; omega))
            rw [e, show p + k - p = k by omega]
            exact hv
          · have e : tDe c n p m_ = p + k := tDe_at hc (by omega) (by omega) (fun i h1 h2 => hb i h1 h2) (by first | exact Or.inl (by omega) | exact Or.inr (by unfold tDt; omega))
            rw [e]
            first
            | exact Or.inl ⟨fun w => by unfold tBd tDt at w; omega, hf1⟩
            | exact Or.inr ⟨by unfold tBd tDt; omega, zxe⟩
            | exact Or.inr ⟨by unfold tBd tDt; omega, zxe.trans (by omega)⟩
        · refine And.intro (Or.inr rfl) ?_
          refine And.intro (zRb rfl) (zbf rfl ?_)
          refine And.intro (zA_61 hS) (zrd (v := (p + k)) hpl ?_)
          refine And.intro (zA_61 hS) (Exists.intro _ (And.intro (zinl_ok (zT9_2 0)) (And.intro rfl ?_)))
          refine And.intro (zA_61 hS) (zrd (v := (-1)) hf1 ?_)
          refine And.intro ⟨(zRb rfl), (zRb rfl)⟩ (zbf rfl ?_)
          refine And.intro (zA_61 hS) ⟨_, (zWi (by omega)), ?_⟩
          refine hQ _ _ ?_ ?_ ?_ (fun c j h0 h1 => (zxcj h1 ((fr c j (by omega)).trans rfl)))
          · have e : tDe c n p m_ = p + k := tDe_at hc (by omega) (by omega) (fun i h1 h2 => hb i h1 h2) (by first | exact Or.inl (by omega) | exact Or.inr (by unfold tDt; omega))
            rw [e]
            first
            | exact hpl
            | exact hpl.trans (by omega)
            | exact (zxs (by decide) hpl).trans (by omega)
          · have e : tDe c n p m_ = p + k := tDe_at hc (by omega) (by omega) (fun i h1 h2 => hb i h1 h2) (by first | exact Or.inl (by omega) | exact Or.inr (by unfold tDt; omega))
            rw [e, show p + k - p = k by omega]
            exact hv
          · have e : tDe c n p m_ = p + k := tDe_at hc (by omega) (by omega) (fun i h1 h2 => hb i h1 h2) (by first | exact Or.inl (by omega) | exact Or.inr (by unfold tDt; omega))
            rw [e]
            first
            | exact Or.inl ⟨fun w => by unfold tBd tDt at w; omega, hf1⟩
            | exact Or.inr ⟨by unfold tBd tDt; omega, zxe⟩
            | exact Or.inr ⟨by unfold tBd tDt; omega, zxe.trans (by omega)⟩
    · refine And.intro (zA_61 hS) ⟨_, sn_K_peek.up (by decide), ?_⟩
      refine ⟨c, n, (p + k), rfl, hS, hR, htx, (by first | exact (zRD_fr hX (fun c j h => ((fr c j (by omega)).trans rfl))) | (clear hQ; grind [xu])), (by first | exact hc | (clear hQ; grind [xu])), hpl, (by omega), ?_⟩
      intro v12o p12hv p12bhv2
      refine Exists.intro _ (And.intro (zinl_ok (zT9_7 0)) (And.intro rfl ?_))
      refine And.intro ⟨(by omega), (zRb rfl)⟩ ⟨fun h3_15 => ?_, fun h3_15 => ?_⟩
      · refine And.intro (Or.inl rfl) ?_
        refine And.intro (zRb rfl) (zbt rfl ?_)
        refine And.intro (by omega) ⟨fun h55 => ?_, fun h55 => ?_⟩
        · refine And.intro (zA_61 hS) (zrd (v := (p + k)) hpl ?_)
          refine And.intro (zA_61 hS) (Exists.intro _ (And.intro (zinl_ok (zT9_2 0)) (And.intro rfl ?_)))
          refine And.intro (zA_61 hS) (zrd (v := (-1)) hf1 ?_)
          refine And.intro ⟨(zRb rfl), (zRb rfl)⟩ (zbf rfl ?_)
          refine And.intro (zA_61 hS) ⟨_, (zWi (by omega)), ?_⟩
          refine hQ _ _ ?_ ?_ ?_ (fun c j h0 h1 => (zxcj h1 ((fr c j (by omega)).trans rfl)))
          · have e : tDe c n p m_ = p + k := tDe_at hc (by omega) (by omega) (fun i h1 h2 => hb i h1 h2) (by first | exact Or.inl (by omega) | exact Or.inr (by unfold tDt; omega))
            rw [e]
            first
            | exact hpl
            | exact hpl.trans (by omega)
            | exact (zxs (by decide) hpl).trans (by omega)
          · have e : tDe c n p m_ = p + k := tDe_at hc (by omega) (by omega) (fun i h1 h2 => hb i h1 h2) (by first | exact Or.inl (by omega) | exact Or.inr (by unfold tDt; omega))
            rw [e, show p + k - p = k by omega]
            exact hv
          · have e : tDe c n p m_ = p + k := tDe_at hc (by omega) (by omega) (fun i h1 h2 => hb i h1 h2) (by first | exact Or.inl (by omega) | exact Or.inr (by unfold tDt; omega))
            rw [e]
            first
            | exact Or.inl ⟨fun w => by unfold tBd tDt at w; omega, hf1⟩
            | exact Or.inr ⟨by unfold tBd tDt; omega, zxe⟩
            | exact Or.inr ⟨by unfold tBd tDt; omega, zxe.trans (by omega)⟩
        · refine And.intro (zA_61 hS) ⟨_, sn_K_peek.up (by decide), ?_⟩
          refine ⟨c, n, (p + k), rfl, hS, hR, htx, (by first | exact (zRD_fr hX (fun c j h => ((fr c j (by omega)).trans rfl))) | (clear hQ; grind [xu])), (by first | exact hc | (clear hQ; grind [xu])), hpl, (by omega), ?_⟩
          intro v59o p59hv p59bhv2
          refine Exists.intro _ (And.intro (zinl_ok (zT9_7 0)) (And.intro rfl ?_))
          refine And.intro ⟨(by omega), (zRb rfl)⟩ ⟨fun h3_62 => ?_, (fun h3_62 => False.elim (by omega))⟩
          refine And.intro (Or.inl rfl) ?_
          refine And.intro (zRb rfl) (zbt rfl ?_)
          refine hQ _ _ ?_ ?_ ?_ (fun c j h0 h1 => ((fr c j (by omega)).trans rfl))
          · have e : tDe c n p m_ = p + k := tDe_at hc (by omega) (by omega) (fun i h1 h2 => hb i h1 h2) (by first | exact Or.inl (by omega) | exact Or.inr (by unfold tDt; omega))
            rw [e]
            first
            | exact hpl
            | exact hpl.trans (by omega)
            | exact (zxs (by decide) hpl).trans (by omega)
          · have e : tDe c n p m_ = p + k := tDe_at hc (by omega) (by omega) (fun i h1 h2 => hb i h1 h2) (by first | exact Or.inl (by omega) | exact Or.inr (by unfold tDt; omega))
            rw [e, show p + k - p = k by omega]
            exact hv
          · have e : tDe c n p m_ = p + k := tDe_at hc (by omega) (by omega) (fun i h1 h2 => hb i h1 h2) (by first | exact Or.inl (by omega) | exact Or.inr (by unfold tDt; omega))
            rw [e]
            first
            | exact Or.inl ⟨fun w => by unfold tBd tDt at w; omega, hf1⟩
            | exact Or.inr ⟨by unfold tBd tDt; omega, zxe⟩
            | exact Or.inr ⟨by unfold tBd tDt; omega, zxe.trans (by omega)⟩
      · refine And.intro ⟨(by omega), (zRb rfl)⟩ ⟨fun h9_15 => ?_, fun h9_15 => ?_⟩
        · refine And.intro (Or.inl rfl) ?_
          refine And.intro (zRb rfl) (zbt rfl ?_)
          refine And.intro (by omega) ⟨fun h55 => ?_, fun h55 => ?_⟩
          · refine And.intro (zA_61 hS) (zrd (v := (p + k)) hpl ?_)
            refine And.intro (zA_61 hS) (Exists.intro _ (And.intro (zinl_ok (zT9_2 0)) (And.intro rfl ?_)))
            refine And.intro (zA_61 hS) (zrd (v := (-1)) hf1 ?_)
            refine And.intro ⟨(zRb rfl), (zRb rfl)⟩ (zbf rfl ?_)
            refine And.intro (zA_61 hS) ⟨_, (zWi (by omega)), ?_⟩
            refine hQ _ _ ?_ ?_ ?_ (fun c j h0 h1 => (zxcj h1 ((fr c j (by omega)).trans rfl)))
            · have e : tDe c n p m_ = p + k := tDe_at hc (by omega) (by omega) (fun i h1 h2 => hb i h1 h2) (by first | exact Or.inl (by omega) | exact Or.inr (by unfold tDt; omega))
              rw [e]
              first
              | exact hpl
              | exact hpl.trans (by omega)
              | exact (zxs (by decide) hpl).trans (by omega)
            · have e : tDe c n p m_ = p + k := tDe_at hc (by omega) (by omega) (fun i h1 h2 => hb i h1 h2) (by first | exact Or.inl (by omega) | exact Or.inr (by unfold tDt; omega))
              rw [e, show p + k - p = k by omega]
              exact hv
            · have e : tDe c n p m_ = p + k := tDe_at hc (by omega) (by omega) (fun i h1 h2 => hb i h1 h2) (by first | exact Or.inl (by omega) | exact Or.inr (by unfold tDt; omega))
              rw [e]
              first
              | exact Or.inl ⟨fun w => by unfold tBd tDt at w; omega, hf1⟩
              | exact Or.inr ⟨by unfold tBd tDt; omega, zxe⟩
              | exact Or.inr ⟨by unfold tBd tDt; omega, zxe.trans (by omega)⟩
          · refine And.intro (zA_61 hS) ⟨_, sn_K_peek.up (by decide), ?_⟩
            refine ⟨c, n, (p + k), rfl, hS, hR, htx, (by first | exact (zRD_fr hX (fun c j h => ((fr c j (by omega)).trans rfl))) | (clear hQ; grind [xu])), (by first | exact hc | (clear hQ; grind [xu])), hpl, (by omega), ?_⟩
            intro v59o p59hv p59bhv2
            refine Exists.intro _ (And.intro (zinl_ok (zT9_7 0)) (And.intro rfl ?_))
            refine And.intro ⟨(by omega), (zRb rfl)⟩ ⟨(fun h3_62 => False.elim (by omega)), fun h3_62 => ?_⟩
            refine And.intro ⟨(by omega), (zRb rfl)⟩ ⟨fun h9_62 => ?_, (fun h9_62 => False.elim (by omega))⟩
            refine And.intro (Or.inl rfl) ?_
            refine And.intro (zRb rfl) (zbt rfl ?_)
            refine hQ _ _ ?_ ?_ ?_ (fun c j h0 h1 => ((fr c j (by omega)).trans rfl))
            · have e : tDe c n p m_ = p + k := tDe_at hc (by omega) (by omega) (fun i h1 h2 => hb i h1 h2) (by first | exact Or.inl (by omega) | exact Or.inr (by unfold tDt; omega))
              rw [e]
              first
              | exact hpl
              | exact hpl.trans (by omega)
              | exact (zxs (by decide) hpl).trans (by omega)
            · have e : tDe c n p m_ = p + k := tDe_at hc (by omega) (by omega) (fun i h1 h2 => hb i h1 h2) (by first | exact Or.inl (by omega) | exact Or.inr (by unfold tDt; omega))
              rw [e, show p + k - p = k by omega]
              exact hv
            · have e : tDe c n p m_ = p + k := tDe_at hc (by omega) (by omega) (fun i h1 h2 => hb i h1 h2) (by first | exact Or.inl (by omega) | exact Or.inr (by unfold tDt; omega))
              rw [e]
              first
              | exact Or.inl ⟨fun w => by unfold tBd tDt at w; omega, hf1⟩
              | exact Or.inr ⟨by unfold tBd tDt; omega, zxe⟩
              | exact Or.inr ⟨by unfold tBd tDt; omega, zxe.trans (by omega)⟩
        · refine And.intro (Or.inr rfl) ?_
          refine And.intro (zRb rfl) (zbf rfl ?_)
          refine And.intro (zA_61 hS) ⟨_, sn_K_peek.up (by decide), ?_⟩
          refine ⟨c, n, (p + k), rfl, hS, hR, htx, (by first | exact (zRD_fr hX (fun c j h => ((fr c j (by omega)).trans rfl))) | (clear hQ; grind [xu])), (by first | exact hc | (clear hQ; grind [xu])), hpl, (by omega), ?_⟩
          intro v27o p27hv p27bhv2
          refine And.intro (by omega) ?_
          refine And.intro (zA_61 hS) (zrd (v := (p + k)) hpl ?_)
          refine And.intro (zA_61 hS) ⟨_, (zWi (by omega)), ?_⟩
          refine ⟨((7 - (k + 1)), 0, 0), zlt6 (by omega), [some (zvr (61)), some (zvi (m_)), some (zvl ((((v * 10) + v27o) - 48))), none, some (zvi ((k + 1)))], ⟨rfl, rfl, rfl, rfl, rfl⟩, (k + 1), (((v * 10) + v27o) - 48), rfl, rfl, rfl, rfl, rfl, rfl, (by omega), (Eq.trans (b := (((p + k) + 1) : Int)) rfl (by omega)), (Eq.trans (b := ((-1) : Int)) hf1 (by omega)), ?_, (by omega), ?_, (fun c j h0 => (zxcj h0 ((fr c j (by omega)).trans rfl)))⟩
          · have e : tVl c p (k + 1) = 10 * tVl c p k + c (p + k) - 48 := rfl
            rw [e]
            omega
          · intro i h1 h2
            by_cases e : i = p + k
            · rw [e]; unfold tDt; omega
            · exact hb i h1 (by omega))
