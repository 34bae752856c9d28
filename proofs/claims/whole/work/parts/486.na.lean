/-! na -/
def T_V_c : ZT := fun args I L R S Q => ∃ (k : Nat) (c : Nat → Int) (n : Nat) (p : Int) (p_ : Nat), args = [zvr k, zvi p] ∧ (zDy zT20 zF20 k R S) ∧ (zRM k c n I) ∧ (tOk c n) ∧ (p = p_ ∧ p_ ≤ 6000) ∧ ∀ (v : Int), (v = c p_) → ((-1 ≤ v ∧ v ≤ 126) ∧ (v = -1 ∨ p_ < n)) → Q (some (zvi (v))) I L R S
theorem sn_V_c : ZSnd 1 20 3 T_V_c := ZSnd.of (zT20_3 0) (by
  rintro args I L R S Q hz ⟨k, c, n, p, p_, rfl, hD, hX, hc, hp, hQ⟩
  obtain ⟨x1, x2⟩ := id hX
  have hn4 := hc.1
  have hk40 := hD.1
  have cb := tOk_b (p := p_) hc
  refine And.intro rfl ?_
  refine And.intro (zDX hD 0 rfl) (zrd (v := n) x1 ?_)
  refine And.intro ⟨(by omega), (by omega)⟩ ⟨fun h5 => ?_, fun h5 => ?_⟩
  · refine hQ _ (by first | omega | exact (cb.1 (by omega)).symm) (by have cb3 := cb.2.2; omega)
  · refine And.intro (zDX hD 0 rfl) (zrdR (v := some (k + 1)) (zDR hD 0 rfl) ?_)
    refine And.intro (zDP hD 1 rfl rfl (by omega) (by omega)) (fun v13 e13 r13 => ?_)
    have f13 : v13 = c p_ := (e13.trans ((congrArg (I (k + 1)) (by omega)).trans (x2 p_ (by omega))))
    refine hQ _ (by first | omega | exact (cb.1 (by omega)).symm) (by have cb3 := cb.2.2; omega))
def T_V_bl : ZT := fun args I L R S Q => ∃ (k : Nat) (c : Nat → Int) (n : Nat) (p : Int) (p_ : Nat), args = [zvr k, zvi p] ∧ (zDy zT20 zF20 k R S) ∧ (zRM k c n I) ∧ (tOk c n) ∧ (p = p_ ∧ p_ ≤ 5000) ∧ ∀ (v : Int), (v = tSk tBk c n p_) → Q (some (zvi (v))) I L R S
theorem sn_V_bl : ZSnd 2 20 2 T_V_bl := ZSnd.loops (zT20_2 1) (by
  rintro args I L R S Q hz ⟨k, c, n, p, p_, rfl, hD, hX, hc, hp, hQ⟩
  obtain ⟨x1, x2⟩ := id hX
  have hn4 := hc.1
  have hk40 := hD.1
  refine ⟨[2], fun nM tM lsM stM I1 L1 R1 S1 => match tM with
      | 2 => ∃ (q : Nat), nM = ((10001 - q), 0, 0) ∧ lsM = [some (zvr (k)), none, some (zvi (q))] ∧ stM = [] ∧ I1 = I ∧ L1 = L ∧ R1 = R ∧ S1 = S ∧ (p_ ≤ q ∧ (q ≤ n ∨ q = p_)) ∧ (q ≤ 5000) ∧ (∀ i, p_ ≤ i → i < q → tBk (c i))
      | _ => False, rfl, ?_, ⟨?_, True.intro⟩⟩
  · refine ⟨((10001 - p_), 0, 0), [some (zvr (k)), none, some (zvi (p_))], ⟨rfl, (congrArg (fun z => some (zvi z)) (by omega)), rfl⟩, p_, rfl, rfl, rfl, rfl, rfl, rfl, rfl, (by clear hQ; grind [xu]), (by omega), (fun i h1 h2 => by omega)⟩
  · rintro nM lsM stM I1 L1 R1 S1 hz1 ⟨q, rfl, rfl, rfl, rfl, rfl, rfl, rfl, hq, hq5, hb⟩
    refine And.intro (zDX hD 0 rfl) ⟨_, sn_V_c.up (by decide), ?_⟩
    refine ⟨k, c, n, (q : Int), q, rfl, hD, (by first | exact (zRM_fr hX (fun c j h => rfl)) | (clear hQ; grind [xu])), (by first | exact hc | (clear hQ; grind [xu])), (by omega), ?_⟩
    intro v4o p4hv p4bhv2
    refine Exists.intro _ (And.intro (zinl_ok (zT20_15 0)) (And.intro rfl ?_))
    refine And.intro ⟨(by omega), (zRb rfl)⟩ ⟨fun h3_7 => ?_, fun h3_7 => ?_⟩
    · refine And.intro (Or.inr rfl) ?_
      refine And.intro (zRb rfl) (zbf rfl ?_)
      refine ⟨((10001 - (q + 1)), 0, 0), zlt6 (by omega), [some (zvr (k)), none, some (zvi ((q + 1)))], ⟨rfl, rfl, rfl⟩, (q + 1), rfl, rfl, rfl, rfl, rfl, rfl, rfl, (by first | exact hq | (clear hQ; grind [xu])), (by omega), ?_⟩
      · intro i h1 h2
        by_cases e : i = q
        · rw [e]; unfold tBk; omega
        · exact hb i h1 (by omega)
    · refine And.intro ⟨(by omega), (zRb rfl)⟩ ⟨fun h9_7 => ?_, fun h9_7 => ?_⟩
      · refine And.intro (Or.inl rfl) ?_
        refine And.intro (zRb rfl) (zbt rfl ?_)
        refine hQ _ (congrArg Nat.cast (tSk_at hq.1 (by omega) hb (by unfold tBk; omega)).symm)
      · refine And.intro (Or.inr rfl) ?_
        refine And.intro (zRb rfl) (zbf rfl ?_)
        refine ⟨((10001 - (q + 1)), 0, 0), zlt6 (by omega), [some (zvr (k)), none, some (zvi ((q + 1)))], ⟨rfl, rfl, rfl⟩, (q + 1), rfl, rfl, rfl, rfl, rfl, rfl, rfl, (by first | exact hq | (clear hQ; grind [xu])), (by omega), ?_⟩
        · intro i h1 h2
          by_cases e : i = q
          · rw [e]; unfold tBk; omega
          · exact hb i h1 (by omega))
def T_V_dig : ZT := fun args I L R S Q => ∃ (k : Nat) (c : Nat → Int) (n : Nat) (p : Int) (p_ : Nat) (m : Int) (m_ : Nat), args = [zvr k, zvi p, zvi m] ∧ (zDy zT20 zF20 k R S) ∧ (zRM k c n I) ∧ (tOk c n) ∧ (p = p_ ∧ p_ ≤ 5000) ∧ (m = m_ ∧ 1 ≤ m_ ∧ m_ ≤ 6) ∧ (I k 18 = -1) ∧ ∀ (v : Int) (I' : ZI), (v = tDe c n p_ m_) → ((¬ tBd c p_ (tDe c n p_ m_) ∧ I' k 18 = -1) ∨ (tBd c p_ (tDe c n p_ m_) ∧ I' k 18 = tDe c n p_ m_)) → (∀ c j : Nat, ¬ (c = k ∧ j = 18) → I' c j = I c j) → Q (some (zvi (v))) I' L R S
theorem sn_V_dig : ZSnd 2 20 7 T_V_dig := ZSnd.loops (zT20_7 1) (by
  rintro args I L R S Q hz ⟨k, c, n, p, p_, m, m_, rfl, hD, hX, hc, hp, hm, hf0, hQ⟩
  obtain ⟨x1, x2⟩ := id hX
  have hn4 := hc.1
  have hk40 := hD.1
  refine ⟨[2], fun nM tM lsM stM I1 L1 R1 S1 => match tM with
      | 2 => ∃ (q : Nat), nM = ((10001 - q), 0, 0) ∧ lsM = [some (zvr (k)), some (zvi (p_)), some (zvi (m_)), some (zvi (q))] ∧ stM = [] ∧ I1 = I ∧ L1 = L ∧ R1 = R ∧ S1 = S ∧ (p_ ≤ q ∧ q ≤ p_ + m_) ∧ (∀ i, p_ ≤ i → i < q → tDt (c i))
      | _ => False, rfl, ?_, ⟨?_, True.intro⟩⟩
  · refine ⟨((10001 - p_), 0, 0), [some (zvr (k)), some (zvi (p_)), some (zvi (m_)), some (zvi (p_))], ⟨rfl, (congrArg (fun z => some (zvi z)) (by omega)), (congrArg (fun z => some (zvi z)) (by omega)), (congrArg (fun z => some (zvi z)) (by omega)), rfl⟩, p_, rfl, rfl, rfl, rfl, rfl, rfl, rfl, (by omega), (fun i h1 h2 => by omega)⟩
  · rintro nM lsM stM I1 L1 R1 S1 hz1 ⟨q, rfl, rfl, rfl, rfl, rfl, rfl, rfl, hq, hb⟩
    refine And.intro (zDX hD 0 rfl) ⟨_, sn_V_c.up (by decide), ?_⟩
    refine ⟨k, c, n, (q : Int), q, rfl, hD, (by first | exact (zRM_fr hX (fun c j h => rfl)) | (clear hQ; grind [xu])), (by first | exact hc | (clear hQ; grind [xu])), (by omega), ?_⟩
    intro v4o p4hv p4bhv2
    refine Exists.intro _ (And.intro (zinl_ok (zT20_16 0)) (And.intro rfl ?_))
    refine And.intro ⟨(by omega), (zRb rfl)⟩ ⟨fun h3_7 => ?_, fun h3_7 => ?_⟩
    · refine And.intro (Or.inl rfl) ?_
      refine And.intro (zRb rfl) (zbt rfl ?_)
      refine And.intro ⟨(by omega), (by omega)⟩ ⟨fun h28 => ?_, fun h28 => ?_⟩
      · refine And.intro (zDX hD 0 rfl) (Exists.intro _ (And.intro (zinl_ok (zT20_9 0)) (And.intro rfl ?_)))
        refine And.intro (zDX hD 0 rfl) (zrd (v := (-1)) hf0 ?_)
        refine And.intro ⟨(zRb rfl), (zRb rfl)⟩ (zbf rfl ?_)
        refine And.intro (zDX hD 0 rfl) ⟨_, (zWi (by omega)), ?_⟩
        refine hQ _ _ ?_ ?_ (fun c j h0 => (zxcj h0 rfl))
        · have e : tDe c n p_ m_ = q := tDe_at hc (by omega) (by omega) (fun i h1 h2 => hb i h1 h2) (by first | exact Or.inl (by omega) | exact Or.inr (by unfold tDt; omega))
          rw [e]
        · have e : tDe c n p_ m_ = q := tDe_at hc (by omega) (by omega) (fun i h1 h2 => hb i h1 h2) (by first | exact Or.inl (by omega) | exact Or.inr (by unfold tDt; omega))
          rw [e]
          first
          | exact Or.inl ⟨fun w => by unfold tBd tDt at w; omega, hf0⟩
          | exact Or.inr ⟨by unfold tBd tDt; omega, zxe⟩
      · refine And.intro (zDX hD 0 rfl) ⟨_, sn_V_c.up (by decide), ?_⟩
        refine ⟨k, c, n, (q : Int), q, rfl, hD, (by first | exact (zRM_fr hX (fun c j h => rfl)) | (clear hQ; grind [xu])), (by first | exact hc | (clear hQ; grind [xu])), (by omega), ?_⟩
        intro v33o p33hv p33bhv2
        refine Exists.intro _ (And.intro (zinl_ok (zT20_16 0)) (And.intro rfl ?_))
        refine And.intro ⟨(by omega), (zRb rfl)⟩ ⟨fun h3_36 => ?_, (fun h3_36 => False.elim (by omega))⟩
        refine And.intro (Or.inl rfl) ?_
        refine And.intro (zRb rfl) (zbt rfl ?_)
        refine hQ _ _ ?_ ?_ (fun c j h0 => rfl)
        · have e : tDe c n p_ m_ = q := tDe_at hc (by omega) (by omega) (fun i h1 h2 => hb i h1 h2) (by first | exact Or.inl (by omega) | exact Or.inr (by unfold tDt; omega))
          rw [e]
        · have e : tDe c n p_ m_ = q := tDe_at hc (by omega) (by omega) (fun i h1 h2 => hb i h1 h2) (by first | exact Or.inl (by omega) | exact Or.inr (by unfold tDt; omega))
          rw [e]
          first
          | exact Or.inl ⟨fun w => by unfold tBd tDt at w; omega, hf0⟩
          | exact Or.inr ⟨by unfold tBd tDt; omega, zxe⟩
    · refine And.intro ⟨(by omega), (zRb rfl)⟩ ⟨fun h9_7 => ?_, fun h9_7 => ?_⟩
      · refine And.intro (Or.inl rfl) ?_
        refine And.intro (zRb rfl) (zbt rfl ?_)
        refine And.intro ⟨(by omega), (by omega)⟩ ⟨fun h28 => ?_, fun h28 => ?_⟩
        · refine And.intro (zDX hD 0 rfl) (Exists.intro _ (And.intro (zinl_ok (zT20_9 0)) (And.intro rfl ?_)))
          refine And.intro (zDX hD 0 rfl) (zrd (v := (-1)) hf0 ?_)
          refine And.intro ⟨(zRb rfl), (zRb rfl)⟩ (zbf rfl ?_)
          refine And.intro (zDX hD 0 rfl) ⟨_, (zWi (by omega)), ?_⟩
          refine hQ _ _ ?_ ?_ (fun c j h0 => (zxcj h0 rfl))
          · have e : tDe c n p_ m_ = q := tDe_at hc (by omega) (by omega) (fun i h1 h2 => hb i h1 h2) (by first | exact Or.inl (by omega) | exact Or.inr (by unfold tDt; omega))
            rw [e]
          · have e : tDe c n p_ m_ = q := tDe_at hc (by omega) (by omega) (fun i h1 h2 => hb i h1 h2) (by first | exact Or.inl (by omega) | exact Or.inr (by unfold tDt; omega))
            rw [e]
            first
            | exact Or.inl ⟨fun w => by unfold tBd tDt at w; omega, hf0⟩
            | exact Or.inr ⟨by unfold tBd tDt; omega, zxe⟩
        · refine And.intro (zDX hD 0 rfl) ⟨_, sn_V_c.up (by decide), ?_⟩
          refine ⟨k, c, n, (q : Int), q, rfl, hD, (by first | exact (zRM_fr hX (fun c j h => rfl)) | (clear hQ; grind [xu])), (by first | exact hc | (clear hQ; grind [xu])), (by omega), ?_⟩
          intro v33o p33hv p33bhv2
          refine Exists.intro _ (And.intro (zinl_ok (zT20_16 0)) (And.intro rfl ?_))
          refine And.intro ⟨(by omega), (zRb rfl)⟩ ⟨(fun h3_36 => False.elim (by omega)), fun h3_36 => ?_⟩
          refine And.intro ⟨(by omega), (zRb rfl)⟩ ⟨fun h9_36 => ?_, (fun h9_36 => False.elim (by omega))⟩
          refine And.intro (Or.inl rfl) ?_
          refine And.intro (zRb rfl) (zbt rfl ?_)
          refine hQ _ _ ?_ ?_ (fun c j h0 => rfl)
          · have e : tDe c n p_ m_ = q := tDe_at hc (by omega) (by omega) (fun i h1 h2 => hb i h1 h2) (by first | exact Or.inl (by omega) | exact Or.inr (by unfold tDt; omega))
            rw [e]
          · have e : tDe c n p_ m_ = q := tDe_at hc (by omega) (by omega) (fun i h1 h2 => hb i h1 h2) (by first | exact Or.inl (by omega) | exact Or.inr (by unfold tDt; omega))
            rw [e]
            first
            | exact Or.inl ⟨fun w => by unfold tBd tDt at w; omega, hf0⟩
            | exact Or.inr ⟨by unfold tBd tDt; omega, zxe⟩
      · refine And.intro (Or.inr rfl) ?_
        refine And.intro (zRb rfl) (zbf rfl ?_)
        refine And.intro ⟨(by omega), (by omega)⟩ ⟨fun h17 => ?_, fun h17 => ?_⟩
        · refine And.intro ⟨(by omega), (by omega)⟩ ⟨(fun h28 => False.elim (by omega)), fun h28 => ?_⟩
          refine And.intro (zDX hD 0 rfl) ⟨_, sn_V_c.up (by decide), ?_⟩
          refine ⟨k, c, n, (q : Int), q, rfl, hD, (by first | exact (zRM_fr hX (fun c j h => rfl)) | (clear hQ; grind [xu])), (by first | exact hc | (clear hQ; grind [xu])), (by omega), ?_⟩
          intro v33o p33hv p33bhv2
          refine Exists.intro _ (And.intro (zinl_ok (zT20_16 0)) (And.intro rfl ?_))
          refine And.intro ⟨(by omega), (zRb rfl)⟩ ⟨(fun h3_36 => False.elim (by omega)), fun h3_36 => ?_⟩
          refine And.intro ⟨(by omega), (zRb rfl)⟩ ⟨(fun h9_36 => False.elim (by omega)), fun h9_36 => ?_⟩
          refine And.intro (Or.inr rfl) ?_
          refine And.intro (zRb rfl) (zbf rfl ?_)
          refine And.intro (zDX hD 0 rfl) (Exists.intro _ (And.intro (zinl_ok (zT20_9 0)) (And.intro rfl ?_)))
          refine And.intro (zDX hD 0 rfl) (zrd (v := (-1)) hf0 ?_)
          refine And.intro ⟨(zRb rfl), (zRb rfl)⟩ (zbf rfl ?_)
          refine And.intro (zDX hD 0 rfl) ⟨_, (zWi (by omega)), ?_⟩
          refine hQ _ _ ?_ ?_ (fun c j h0 => (zxcj h0 rfl))
          · have e : tDe c n p_ m_ = q := tDe_at hc (by omega) (by omega) (fun i h1 h2 => hb i h1 h2) (by first | exact Or.inl (by omega) | exact Or.inr (by unfold tDt; omega))
            rw [e]
          · have e : tDe c n p_ m_ = q := tDe_at hc (by omega) (by omega) (fun i h1 h2 => hb i h1 h2) (by first | exact Or.inl (by omega) | exact Or.inr (by unfold tDt; omega))
            rw [e]
            first
            | exact Or.inl ⟨fun w => by unfold tBd tDt at w; omega, hf0⟩
            | exact Or.inr ⟨by unfold tBd tDt; omega, zxe⟩
        · refine ⟨((10001 - (q + 1)), 0, 0), zlt6 (by omega), [some (zvr (k)), some (zvi (p_)), some (zvi (m_)), some (zvi ((q + 1)))], ⟨rfl, rfl, rfl, rfl, rfl⟩, (q + 1), rfl, rfl, rfl, rfl, rfl, rfl, rfl, (by omega), ?_⟩
          · intro i h1 h2
            by_cases e : i = q
            · rw [e]; unfold tDt; omega
            · exact hb i h1 (by omega))
def T_V_val : ZT := fun args I L R S Q => ∃ (k : Nat) (c : Nat → Int) (n : Nat) (p : Int) (p_ : Nat) (q : Int) (q_ : Nat), args = [zvr k, zvi p, zvi q] ∧ (zDy zT20 zF20 k R S) ∧ (zRM k c n I) ∧ (tOk c n) ∧ (p = p_ ∧ p_ ≤ 5000) ∧ (q = q_ ∧ p_ ≤ q_ ∧ q_ ≤ p_ + 6 ∧ (q_ ≤ n ∨ q_ = p_)) ∧ (∀ i, p_ ≤ i → i < q_ → tDt (c i)) ∧ ∀ (v : Int), (v = tVl c p_ (q_ - p_)) → (0 ≤ v ∧ v ≤ 999999) → Q (some (zvl (v))) I L R S
theorem sn_V_val : ZSnd 2 20 53 T_V_val := ZSnd.loops (zT20_53 1) (by
  rintro args I L R S Q hz ⟨k, c, n, p, p_, q, q_, rfl, hD, hX, hc, hp, hq, hd, hQ⟩
  obtain ⟨x1, x2⟩ := id hX
  have hn4 := hc.1
  have hk40 := hD.1
  refine ⟨[5], fun nM tM lsM stM I1 L1 R1 S1 => match tM with
      | 5 => ∃ (i : Nat) (v : Int), nM = ((10001 - i), 0, 0) ∧ lsM = [some (zvr (k)), some (zvi (p_)), some (zvi (q_)), some (zvl (v)), none, some (zvi (i))] ∧ stM = [] ∧ I1 = I ∧ L1 = L ∧ R1 = R ∧ S1 = S ∧ (p_ ≤ i ∧ i ≤ q_) ∧ (v = tVl c p_ (i - p_)) ∧ (0 ≤ v ∧ v ≤ 999999)
      | _ => False, rfl, ?_, ⟨?_, True.intro⟩⟩
  · refine ⟨((10001 - p_), 0, 0), [some (zvr (k)), some (zvi (p_)), some (zvi (q_)), some (zvl ((0 : Int))), none, some (zvi (p_))], ⟨rfl, (congrArg (fun z => some (zvi z)) (by omega)), (congrArg (fun z => some (zvi z)) (by omega)), rfl, (congrArg (fun z => some (zvi z)) (by omega)), rfl⟩, p_, 0, rfl, rfl, rfl, rfl, rfl, rfl, rfl, (by omega), (by rw [Nat.sub_self]; rfl), (by omega)⟩
  · rintro nM lsM stM I1 L1 R1 S1 hz1 ⟨i, v, rfl, rfl, rfl, rfl, rfl, rfl, rfl, hi, hv, hvb⟩
    have vb := tVl_b (c := c) (p := p_) (n := q_ - p_) (fun i h1 h2 => hd i h1 (by omega)) (m := i - p_) (by omega)
    refine And.intro ⟨(by omega), (by omega)⟩ ⟨fun h8 => ?_, fun h8 => ?_⟩
    · refine hQ _ (by obtain rfl : i = q_ := (by omega); exact hv) (by omega)
    · refine And.intro (zDX hD 0 rfl) (zrdR (v := some (k + 1)) (zDR hD 0 rfl) ?_)
      refine And.intro (zDP hD 1 rfl rfl (by omega) (by omega)) (fun v17 e17 r17 => ?_)
      have f17 : v17 = c i := (e17.trans ((congrArg (I1 (k + 1)) (by omega)).trans (x2 i (by omega))))
      have f17b : 48 ≤ v17 ∧ v17 ≤ 57 := (by have w := hd i (by omega) (by omega); unfold tDt at w; omega)
      refine Exists.intro _ (And.intro (zinl_ok (zT20_16 0)) (And.intro rfl ?_))
      refine And.intro ⟨r17, (zRb rfl)⟩ ⟨(fun h3_18 => False.elim (by omega)), fun h3_18 => ?_⟩
      refine And.intro ⟨r17, (zRb rfl)⟩ ⟨(fun h9_18 => False.elim (by omega)), fun h9_18 => ?_⟩
      refine And.intro (Or.inr rfl) ?_
      refine And.intro (zRb rfl) (zbf rfl ?_)
      refine And.intro (zDX hD 0 rfl) (zrdR (v := some (k + 1)) (zDR hD 0 rfl) ?_)
      refine And.intro (zDP hD 1 rfl rfl (by omega) (by omega)) (fun v35 e35 r35 => ?_)
      have f35 : v35 = c i := (e35.trans ((congrArg (I1 (k + 1)) (by omega)).trans (x2 i (by omega))))
      have f35b : 48 ≤ v35 ∧ v35 ≤ 57 := (by have w := hd i (by omega) (by omega); unfold tDt at w; omega)
      refine And.intro r35 ?_
      refine ⟨((10001 - (i + 1)), 0, 0), zlt6 (by omega), [some (zvr (k)), some (zvi (p_)), some (zvi (q_)), some (zvl ((((10 * v) + v35) - 48))), none, some (zvi ((i + 1)))], ⟨rfl, rfl, rfl, rfl, rfl, rfl⟩, (i + 1), (((10 * v) + v35) - 48), rfl, rfl, rfl, rfl, rfl, rfl, rfl, (by omega), ?_, ?_⟩
      · have w := hd i (by omega) (by omega)
        unfold tDt at w
        rw [show i + 1 - p_ = (i - p_) + 1 by omega]
        have e : tVl c p_ (i - p_ + 1) = 10 * tVl c p_ (i - p_) + c (p_ + (i - p_)) - 48 := rfl
        rw [e, show p_ + (i - p_) = i by omega]
        omega
      · have vb := tVl_b (c := c) (p := p_) (n := q_ - p_) (fun i h1 h2 => hd i h1 (by omega)) (m := i + 1 - p_) (by omega)
        rw [show i + 1 - p_ = (i - p_) + 1 by omega] at vb
        have e : tVl c p_ (i - p_ + 1) = 10 * tVl c p_ (i - p_) + c (p_ + (i - p_)) - 48 := rfl
        rw [e, show p_ + (i - p_) = i by omega] at vb
        omega)
