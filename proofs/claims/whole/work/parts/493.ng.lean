/-! ng -/
def T_V_spc : ZT := fun args I L R S Q => ∃ (k : Nat) (c : Nat → Int) (n : Nat) (p : Int) (p_ : Nat) (b : Int) (b_ : Nat), args = [zvr k, zvi p, zvi b] ∧ (zDy zT20 zF20 k R S) ∧ (zRM k c n I) ∧ (tOk c n) ∧ (p = p_ ∧ p_ ≤ 5000) ∧ (b = b_ ∧ b_ ≤ 1) ∧ (I k 18 = -1) ∧ ∀ (v : Int) (I' : ZI), ((tGk c p_ b_ ∧ I' k 18 = -1 ∧ v = tGe c n p_ b_) ∨ (¬ tGk c p_ b_ ∧ I' k 18 = p_)) → (0 ≤ v ∧ v ≤ 5001) → (∀ c j : Nat, ¬ (c = k ∧ j = 18) → I' c j = I c j) → Q (some (zvi (v))) I' L R S
theorem sn_V_spc : ZSnd 3 20 48 T_V_spc := ZSnd.of (zT20_48 2) (by
  rintro args I L R S Q hz ⟨k, c, n, p, p_, b, b_, rfl, hD, hX, hc, hp, hb, hf0, hQ⟩
  obtain ⟨x1, x2⟩ := id hX
  have hn4 := hc.1
  have hk40 := hD.1
  refine And.intro rfl ?_
  refine And.intro (zDX hD 0 rfl) ⟨_, sn_V_c.up (by decide), ?_⟩
  refine ⟨k, c, n, (p : Int), p_, rfl, hD, (by first | exact (zRM_fr hX (fun c j h => rfl)) | (clear hQ; grind [xu])), (by first | exact hc | (clear hQ; grind [xu])), (by omega), ?_⟩
  intro v2o p2hv p2bhv2
  refine And.intro ⟨(by omega), (zRb rfl)⟩ ⟨fun h7 => ?_, fun h7 => ?_⟩
  · refine And.intro (zRb rfl) (zbt rfl ?_)
    refine And.intro (by omega) ⟨fun h40 => ?_, fun h40 => ?_⟩
    · refine hQ _ _ ?_ (by omega) (fun c j h0 => rfl)
      · first
        | exact Or.inr ⟨fun w => by unfold tGk at w; omega, zxe.trans (by omega)⟩
        | exact Or.inl ⟨by unfold tGk; omega, rfl.trans hf0, by rw [tGe_1 (by omega), ← tSk_up hc (by unfold tBk; omega)]; exact p45hv⟩
        | exact Or.inl ⟨by unfold tGk; omega, rfl.trans hf0, by rw [tGe_0 (by omega)]; omega⟩
    · refine And.intro (zDX hD 0 rfl) ⟨_, sn_V_bl.up (by decide), ?_⟩
      refine ⟨k, c, n, (p : Int), p_, rfl, hD, (by first | exact (zRM_fr hX (fun c j h => rfl)) | (clear hQ; grind [xu])), (by first | exact hc | (clear hQ; grind [xu])), (by omega), ?_⟩
      intro v45o p45hv
      have g45 : 0 ≤ v45o ∧ v45o ≤ 5000 := (by have w := tSk_b (P := tBk) (p := p_) hc tBk_no; omega)
      refine hQ _ _ ?_ (by omega) (fun c j h0 => rfl)
      · first
        | exact Or.inr ⟨fun w => by unfold tGk at w; omega, zxe.trans (by omega)⟩
        | exact Or.inl ⟨by unfold tGk; omega, rfl.trans hf0, by rw [tGe_1 (by omega), ← tSk_up hc (by unfold tBk; omega)]; exact p45hv⟩
        | exact Or.inl ⟨by unfold tGk; omega, rfl.trans hf0, by rw [tGe_0 (by omega)]; omega⟩
  · refine And.intro (by omega) ⟨fun h11 => ?_, fun h11 => ?_⟩
    · refine And.intro (zRb rfl) (zbf rfl ?_)
      refine And.intro (zDX hD 0 rfl) (Exists.intro _ (And.intro (zinl_ok (zT20_9 1)) (And.intro rfl ?_)))
      refine And.intro (zDX hD 0 rfl) (zrd (v := (-1)) hf0 ?_)
      refine And.intro ⟨(zRb rfl), (zRb rfl)⟩ (zbf rfl ?_)
      refine And.intro (zDX hD 0 rfl) ⟨_, (zWi (by omega)), ?_⟩
      refine And.intro (by omega) ⟨fun h40 => ?_, (fun h40 => False.elim (by omega))⟩
      refine hQ _ _ ?_ (by omega) (fun c j h0 => (zxcj h0 rfl))
      · first
        | exact Or.inr ⟨fun w => by unfold tGk at w; omega, zxe.trans (by omega)⟩
        | exact Or.inl ⟨by unfold tGk; omega, (zxcj (by omega) rfl).trans hf0, by rw [tGe_1 (by omega), ← tSk_up hc (by unfold tBk; omega)]; exact p45hv⟩
        | exact Or.inl ⟨by unfold tGk; omega, (zxcj (by omega) rfl).trans hf0, by rw [tGe_0 (by omega)]; omega⟩
    · refine And.intro (zDX hD 0 rfl) ⟨_, sn_V_c.up (by decide), ?_⟩
      refine ⟨k, c, n, (p : Int), p_, rfl, hD, (by first | exact (zRM_fr hX (fun c j h => rfl)) | (clear hQ; grind [xu])), (by first | exact hc | (clear hQ; grind [xu])), (by omega), ?_⟩
      intro v16o p16hv p16bhv2
      refine And.intro ⟨(by omega), (zRb rfl)⟩ ⟨fun h21 => ?_, fun h21 => ?_⟩
      · refine And.intro (zRb rfl) (zbf rfl ?_)
        refine And.intro (zDX hD 0 rfl) (Exists.intro _ (And.intro (zinl_ok (zT20_9 1)) (And.intro rfl ?_)))
        refine And.intro (zDX hD 0 rfl) (zrd (v := (-1)) hf0 ?_)
        refine And.intro ⟨(zRb rfl), (zRb rfl)⟩ (zbf rfl ?_)
        refine And.intro (zDX hD 0 rfl) ⟨_, (zWi (by omega)), ?_⟩
        refine And.intro (by omega) ⟨(fun h40 => False.elim (by omega)), fun h40 => ?_⟩
        refine And.intro (zDX hD 0 rfl) ⟨_, sn_V_bl.up (by decide), ?_⟩
        refine ⟨k, c, n, (p : Int), p_, rfl, hD, (by first | exact (zRM_fr hX (fun c j h => (zxcj (by omega) rfl))) | (clear hQ; grind [xu])), (by first | exact hc | (clear hQ; grind [xu])), (by omega), ?_⟩
        intro v45o p45hv
        have g45 : 0 ≤ v45o ∧ v45o ≤ 5000 := (by have w := tSk_b (P := tBk) (p := p_) hc tBk_no; omega)
        refine hQ _ _ ?_ (by omega) (fun c j h0 => (zxcj h0 rfl))
        · first
          | exact Or.inr ⟨fun w => by unfold tGk at w; omega, zxe.trans (by omega)⟩
          | exact Or.inl ⟨by unfold tGk; omega, (zxcj (by omega) rfl).trans hf0, by rw [tGe_1 (by omega), ← tSk_up hc (by unfold tBk; omega)]; exact p45hv⟩
          | exact Or.inl ⟨by unfold tGk; omega, (zxcj (by omega) rfl).trans hf0, by rw [tGe_0 (by omega)]; omega⟩
      · refine And.intro (zRb rfl) (zbt rfl ?_)
        refine And.intro (by omega) ⟨(fun h40 => False.elim (by omega)), fun h40 => ?_⟩
        refine And.intro (zDX hD 0 rfl) ⟨_, sn_V_bl.up (by decide), ?_⟩
        refine ⟨k, c, n, (p : Int), p_, rfl, hD, (by first | exact (zRM_fr hX (fun c j h => rfl)) | (clear hQ; grind [xu])), (by first | exact hc | (clear hQ; grind [xu])), (by omega), ?_⟩
        intro v45o p45hv
        have g45 : 0 ≤ v45o ∧ v45o ≤ 5000 := (by have w := tSk_b (P := tBk) (p := p_) hc tBk_no; omega)
        refine hQ _ _ ?_ (by omega) (fun c j h0 => rfl)
        · first
          | exact Or.inr ⟨fun w => by unfold tGk at w; omega, zxe.trans (by omega)⟩
          | exact Or.inl ⟨by unfold tGk; omega, rfl.trans hf0, by rw [tGe_1 (by omega), ← tSk_up hc (by unfold tBk; omega)]; exact p45hv⟩
          | exact Or.inl ⟨by unfold tGk; omega, rfl.trans hf0, by rw [tGe_0 (by omega)]; omega⟩)
def T_V_nme : ZT := fun args I L R S Q => ∃ (k : Nat) (c : Nat → Int) (n : Nat) (p : Int) (p_ : Nat), args = [zvr k, zvi p] ∧ (zDy zT20 zF20 k R S) ∧ (zRM k c n I) ∧ (tOk c n) ∧ (p = p_ ∧ p_ ≤ 5000) ∧ ∀ (v : Int), (v = tSk tSm c n p_) → Q (some (zvi (v))) I L R S
theorem sn_V_nme : ZSnd 2 20 25 T_V_nme := ZSnd.loops (zT20_25 1) (by
  rintro args I L R S Q hz ⟨k, c, n, p, p_, rfl, hD, hX, hc, hp, hQ⟩
  obtain ⟨x1, x2⟩ := id hX
  have hn4 := hc.1
  have hk40 := hD.1
  refine ⟨[2], fun nM tM lsM stM I1 L1 R1 S1 => match tM with
      | 2 => ∃ (q : Nat), nM = ((10001 - q), 0, 0) ∧ lsM = [some (zvr (k)), some (zvi (p_)), some (zvi (q))] ∧ stM = [] ∧ I1 = I ∧ L1 = L ∧ R1 = R ∧ S1 = S ∧ (p_ ≤ q ∧ (q ≤ n ∨ q = p_)) ∧ (q ≤ 5000) ∧ (∀ i, p_ ≤ i → i < q → tSm (c i))
      | _ => False, rfl, ?_, ⟨?_, True.intro⟩⟩
  · refine ⟨((10001 - p_), 0, 0), [some (zvr (k)), some (zvi (p_)), some (zvi (p_))], ⟨rfl, (congrArg (fun z => some (zvi z)) (by omega)), (congrArg (fun z => some (zvi z)) (by omega)), rfl⟩, p_, rfl, rfl, rfl, rfl, rfl, rfl, rfl, (by clear hQ; grind [xu]), (by omega), (fun i h1 h2 => by omega)⟩
  · rintro nM lsM stM I1 L1 R1 S1 hz1 ⟨q, rfl, rfl, rfl, rfl, rfl, rfl, rfl, hq, hq5, hb⟩
    refine And.intro (zDX hD 0 rfl) ⟨_, sn_V_c.up (by decide), ?_⟩
    refine ⟨k, c, n, (q : Int), q, rfl, hD, (by first | exact (zRM_fr hX (fun c j h => rfl)) | (clear hQ; grind [xu])), (by first | exact hc | (clear hQ; grind [xu])), (by omega), ?_⟩
    intro v4o p4hv p4bhv2
    refine Exists.intro _ (And.intro (zinl_ok (zT20_18 0)) (And.intro rfl ?_))
    refine And.intro ⟨(by omega), (zRb rfl)⟩ ⟨fun h3_7 => ?_, fun h3_7 => ?_⟩
    · refine And.intro (Or.inl rfl) ?_
      refine And.intro (zRb rfl) (zbt rfl ?_)
      refine hQ _ (congrArg Nat.cast (tSk_at hq.1 (by omega) hb (by unfold tSm; omega)).symm)
    · refine And.intro ⟨(by omega), (zRb rfl)⟩ ⟨fun h9_7 => ?_, fun h9_7 => ?_⟩
      · refine And.intro (Or.inl rfl) ?_
        refine And.intro (zRb rfl) (zbt rfl ?_)
        refine hQ _ (congrArg Nat.cast (tSk_at hq.1 (by omega) hb (by unfold tSm; omega)).symm)
      · refine And.intro (Or.inr rfl) ?_
        refine And.intro (zRb rfl) (zbf rfl ?_)
        refine ⟨((10001 - (q + 1)), 0, 0), zlt6 (by omega), [some (zvr (k)), some (zvi (p_)), some (zvi ((q + 1)))], ⟨rfl, rfl, rfl, rfl⟩, (q + 1), rfl, rfl, rfl, rfl, rfl, rfl, rfl, (by first | exact hq | (clear hQ; grind [xu])), (by omega), ?_⟩
        · intro i h1 h2
          by_cases e : i = q
          · rw [e]; unfold tSm; omega
          · exact hb i h1 (by omega))
def T_V_nmo : ZT := fun args I L R S Q => ∃ (a : Int) (a_ : Nat), args = [zvi a] ∧ (a = a_ ∧ a_ ≤ 8) ∧ ∀ (v : Int), (v = tCd a_) → (1 ≤ v ∧ v ≤ 387420488) → Q (some (zvl (v))) I L R S
theorem sn_V_nmo : ZSnd 2 20 26 T_V_nmo := ZSnd.of (zT20_26 1) (by
  rintro args I L R S Q hz ⟨a, a_, rfl, ha, hQ⟩
  refine And.intro rfl ?_
  refine And.intro (by omega) (And.intro (And.intro (fun h1 => ?_) (And.intro (fun h1 => ?_) (And.intro (fun h1 => ?_) (And.intro (fun h1 => ?_) (And.intro (fun h1 => ?_) (And.intro (fun h1 => ?_) (And.intro (fun h1 => ?_) (And.intro (fun h1 => ?_) True.intro)))))))) (fun h1 => ?_))
  · refine Exists.intro _ (And.intro (zinl_ok (zT20_49 0)) (And.intro rfl ?_))
    refine And.intro (zRb rfl) ?_
    refine And.intro (zRb rfl) ?_
    refine And.intro (zRb rfl) (zbf rfl ?_)
    refine And.intro (zRb rfl) ?_
    refine And.intro (zRb rfl) (zbf rfl ?_)
    refine And.intro (zRb rfl) ?_
    refine And.intro (zRb rfl) (zbf rfl ?_)
    refine And.intro (zRb rfl) ?_
    refine And.intro (zRb rfl) (zbf rfl ?_)
    refine And.intro (zRb rfl) ?_
    refine hQ _ ?_ (by decide)
    · have qa : a_ = 0 ∨ a_ = 1 ∨ a_ = 2 ∨ a_ = 3 ∨ a_ = 4 ∨ a_ = 5 ∨ a_ = 6 ∨ a_ = 7 ∨ a_ = 8 := (by omega)
      clear hQ
      rcases qa with rfl | rfl | rfl | rfl | rfl | rfl | rfl | rfl | rfl <;> first | (exfalso; omega) | decide +kernel
  · refine Exists.intro _ (And.intro (zinl_ok (zT20_49 0)) (And.intro rfl ?_))
    refine And.intro (zRb rfl) ?_
    refine And.intro (zRb rfl) ?_
    refine And.intro (zRb rfl) (zbf rfl ?_)
    refine And.intro (zRb rfl) ?_
    refine And.intro (zRb rfl) (zbf rfl ?_)
    refine And.intro (zRb rfl) ?_
    refine And.intro (zRb rfl) (zbf rfl ?_)
    refine And.intro (zRb rfl) ?_
    refine And.intro (zRb rfl) (zbt rfl ?_)
    refine hQ _ ?_ (by decide)
    · have qa : a_ = 0 ∨ a_ = 1 ∨ a_ = 2 ∨ a_ = 3 ∨ a_ = 4 ∨ a_ = 5 ∨ a_ = 6 ∨ a_ = 7 ∨ a_ = 8 := (by omega)
      clear hQ
      rcases qa with rfl | rfl | rfl | rfl | rfl | rfl | rfl | rfl | rfl <;> first | (exfalso; omega) | decide +kernel
  · refine Exists.intro _ (And.intro (zinl_ok (zT20_49 0)) (And.intro rfl ?_))
    refine And.intro (zRb rfl) ?_
    refine And.intro (zRb rfl) ?_
    refine And.intro (zRb rfl) (zbf rfl ?_)
    refine And.intro (zRb rfl) ?_
    refine And.intro (zRb rfl) (zbf rfl ?_)
    refine And.intro (zRb rfl) ?_
    refine And.intro (zRb rfl) (zbf rfl ?_)
    refine And.intro (zRb rfl) ?_
    refine And.intro (zRb rfl) (zbf rfl ?_)
    refine And.intro (zRb rfl) ?_
    refine hQ _ ?_ (by decide)
    · have qa : a_ = 0 ∨ a_ = 1 ∨ a_ = 2 ∨ a_ = 3 ∨ a_ = 4 ∨ a_ = 5 ∨ a_ = 6 ∨ a_ = 7 ∨ a_ = 8 := (by omega)
      clear hQ
      rcases qa with rfl | rfl | rfl | rfl | rfl | rfl | rfl | rfl | rfl <;> first | (exfalso; omega) | decide +kernel
  · refine Exists.intro _ (And.intro (zinl_ok (zT20_49 0)) (And.intro rfl ?_))
    refine And.intro (zRb rfl) ?_
    refine And.intro (zRb rfl) ?_
    refine And.intro (zRb rfl) (zbf rfl ?_)
    refine And.intro (zRb rfl) ?_
    refine And.intro (zRb rfl) (zbf rfl ?_)
    refine And.intro (zRb rfl) ?_
    refine And.intro (zRb rfl) (zbt rfl ?_)
    refine And.intro (zRb rfl) (zbt rfl ?_)
    refine hQ _ ?_ (by decide)
    · have qa : a_ = 0 ∨ a_ = 1 ∨ a_ = 2 ∨ a_ = 3 ∨ a_ = 4 ∨ a_ = 5 ∨ a_ = 6 ∨ a_ = 7 ∨ a_ = 8 := (by omega)
      clear hQ
      rcases qa with rfl | rfl | rfl | rfl | rfl | rfl | rfl | rfl | rfl <;> first | (exfalso; omega) | decide +kernel
  · refine Exists.intro _ (And.intro (zinl_ok (zT20_49 0)) (And.intro rfl ?_))
    refine And.intro (zRb rfl) ?_
    refine And.intro (zRb rfl) ?_
    refine And.intro (zRb rfl) (zbf rfl ?_)
    refine And.intro (zRb rfl) ?_
    refine And.intro (zRb rfl) (zbt rfl ?_)
    refine And.intro (zRb rfl) (zbt rfl ?_)
    refine And.intro (zRb rfl) (zbt rfl ?_)
    refine hQ _ ?_ (by decide)
    · have qa : a_ = 0 ∨ a_ = 1 ∨ a_ = 2 ∨ a_ = 3 ∨ a_ = 4 ∨ a_ = 5 ∨ a_ = 6 ∨ a_ = 7 ∨ a_ = 8 := (by omega)
      clear hQ
      rcases qa with rfl | rfl | rfl | rfl | rfl | rfl | rfl | rfl | rfl <;> first | (exfalso; omega) | decide +kernel
  · refine Exists.intro _ (And.intro (zinl_ok (zT20_49 0)) (And.intro rfl ?_))
    refine And.intro (zRb rfl) ?_
    refine And.intro (zRb rfl) ?_
    refine And.intro (zRb rfl) (zbf rfl ?_)
    refine And.intro (zRb rfl) ?_
    refine And.intro (zRb rfl) (zbt rfl ?_)
    refine And.intro (zRb rfl) (zbt rfl ?_)
    refine And.intro (zRb rfl) (zbt rfl ?_)
    refine hQ _ ?_ (by decide)
    · have qa : a_ = 0 ∨ a_ = 1 ∨ a_ = 2 ∨ a_ = 3 ∨ a_ = 4 ∨ a_ = 5 ∨ a_ = 6 ∨ a_ = 7 ∨ a_ = 8 := (by omega)
      clear hQ
      rcases qa with rfl | rfl | rfl | rfl | rfl | rfl | rfl | rfl | rfl <;> first | (exfalso; omega) | decide +kernel
  · refine Exists.intro _ (And.intro (zinl_ok (zT20_49 0)) (And.intro rfl ?_))
    refine And.intro (zRb rfl) ?_
    refine And.intro (zRb rfl) ?_
    refine And.intro (zRb rfl) (zbf rfl ?_)
    refine And.intro (zRb rfl) ?_
    refine And.intro (zRb rfl) (zbf rfl ?_)
    refine And.intro (zRb rfl) ?_
    refine And.intro (zRb rfl) (zbt rfl ?_)
    refine And.intro (zRb rfl) (zbt rfl ?_)
    refine hQ _ ?_ (by decide)
    · have qa : a_ = 0 ∨ a_ = 1 ∨ a_ = 2 ∨ a_ = 3 ∨ a_ = 4 ∨ a_ = 5 ∨ a_ = 6 ∨ a_ = 7 ∨ a_ = 8 := (by omega)
      clear hQ
      rcases qa with rfl | rfl | rfl | rfl | rfl | rfl | rfl | rfl | rfl <;> first | (exfalso; omega) | decide +kernel
  · refine Exists.intro _ (And.intro (zinl_ok (zT20_49 0)) (And.intro rfl ?_))
    refine And.intro (zRb rfl) ?_
    refine And.intro (zRb rfl) ?_
    refine And.intro (zRb rfl) (zbf rfl ?_)
    refine And.intro (zRb rfl) ?_
    refine And.intro (zRb rfl) (zbf rfl ?_)
    refine And.intro (zRb rfl) ?_
    refine And.intro (zRb rfl) (zbt rfl ?_)
    refine And.intro (zRb rfl) (zbt rfl ?_)
    refine hQ _ ?_ (by decide)
    · have qa : a_ = 0 ∨ a_ = 1 ∨ a_ = 2 ∨ a_ = 3 ∨ a_ = 4 ∨ a_ = 5 ∨ a_ = 6 ∨ a_ = 7 ∨ a_ = 8 := (by omega)
      clear hQ
      rcases qa with rfl | rfl | rfl | rfl | rfl | rfl | rfl | rfl | rfl <;> first | (exfalso; omega) | decide +kernel
  · refine Exists.intro _ (And.intro (zinl_ok (zT20_49 0)) (And.intro rfl ?_))
    refine And.intro (zRb rfl) ?_
    refine And.intro (zRb rfl) ?_
    refine And.intro (zRb rfl) (zbf rfl ?_)
    refine And.intro (zRb rfl) ?_
    refine And.intro (zRb rfl) (zbf rfl ?_)
    refine And.intro (zRb rfl) ?_
    refine And.intro (zRb rfl) (zbf rfl ?_)
    refine And.intro (zRb rfl) ?_
    refine And.intro (zRb rfl) (zbt rfl ?_)
    refine hQ _ ?_ (by decide)
    · have qa : a_ = 0 ∨ a_ = 1 ∨ a_ = 2 ∨ a_ = 3 ∨ a_ = 4 ∨ a_ = 5 ∨ a_ = 6 ∨ a_ = 7 ∨ a_ = 8 := (by omega)
      clear hQ
      rcases qa with rfl | rfl | rfl | rfl | rfl | rfl | rfl | rfl | rfl <;> first | (exfalso; omega) | decide +kernel)
def T_V_kat : ZT := fun args I L R S Q => ∃ (k : Nat) (c : Nat → Int) (n : Nat) (p : Int) (p_ : Nat) (q : Int) (q_ : Nat), args = [zvr k, zvi p, zvi q] ∧ (zDy zT20 zF20 k R S) ∧ (zRM k c n I) ∧ (tOk c n) ∧ (p = p_ ∧ p_ ≤ q_) ∧ (q = q_ ∧ q_ ≤ n) ∧ (∀ i, i < q_ - p_ → 97 ≤ c (p_ + i) ∧ c (p_ + i) ≤ 122) ∧ (p_ < q_) ∧ ∀ (v : Int), (v = tKd c p_ q_) → (0 ≤ v ∧ v ≤ 9) → Q (some (zvi (v))) I L R S
theorem sn_V_kat : ZSnd 3 20 21 T_V_kat := ZSnd.loops (zT20_21 2) (by
  rintro args I L R S Q hz ⟨k, c, n, p, p_, q, q_, rfl, hD, hX, hc, hp, hq, hs, hpq, hQ⟩
  obtain ⟨x1, x2⟩ := id hX
  have hn4 := hc.1
  have hk40 := hD.1
  refine ⟨[5, 47], fun nM tM lsM stM I1 L1 R1 S1 => match tM with
      | 5 => ∃ (i : Nat) (x : Int), nM = (2, (10001 - i), 0) ∧ lsM = [some (zvr (k)), some (zvi (p_)), some (zvi (q_)), some (zvl (x)), none, some (zvi (i))] ∧ stM = [] ∧ I1 = I ∧ L1 = L ∧ R1 = R ∧ S1 = S ∧ (p_ ≤ i ∧ i ≤ q_) ∧ (x = tNm c p_ (i - p_)) ∧ (0 ≤ x ∧ x ≤ 387420488) ∧ (q_ - p_ < 7 ∨ i = p_)
      | 47 => ∃ (a : Nat) (x : Int), nM = (1, (10 - a), 0) ∧ lsM = [some (zvr (k)), some (zvi (p_)), some (zvi (q_)), some (zvl (x)), none, some (zvi (a))] ∧ stM = [] ∧ I1 = I ∧ L1 = L ∧ R1 = R ∧ S1 = S ∧ (a ≤ 9) ∧ ((q_ - p_ < 7 ∧ x = tNm c p_ (q_ - p_)) ∨ (7 ≤ q_ - p_ ∧ x = 0)) ∧ (0 ≤ x ∧ x ≤ 387420488) ∧ (∀ b, b < a → ¬ tIs c p_ q_ b)
      | _ => False, rfl, ?_, ⟨?_, ?_, True.intro⟩⟩
  · refine ⟨(2, (10001 - p_), 0), [some (zvr (k)), some (zvi (p_)), some (zvi (q_)), some (zvl ((0 : Int))), none, some (zvi (p_))], ⟨rfl, (congrArg (fun z => some (zvi z)) (by omega)), (congrArg (fun z => some (zvi z)) (by omega)), rfl, (congrArg (fun z => some (zvi z)) (by omega)), rfl⟩, p_, 0, rfl, rfl, rfl, rfl, rfl, rfl, rfl, (by omega), (by rw [Nat.sub_self]; rfl), (by omega), (by clear hQ; grind [xu])⟩
  · rintro nM lsM stM I1 L1 R1 S1 hz1 ⟨i, x, rfl, rfl, rfl, rfl, rfl, rfl, rfl, hi, hx, hxb, h7⟩
    refine And.intro ⟨(by omega), (by omega)⟩ ⟨fun h8 => ?_, fun h8 => ?_⟩
    · refine ⟨(1, (10 - (0 : Nat)), 0), zlt6 (by omega), [some (zvr (k)), some (zvi (p_)), some (zvi (q_)), some (zvl (x)), none, some (zvi ((0 : Nat)))], ⟨rfl, rfl, rfl, rfl, rfl, rfl⟩, 0, x, rfl, rfl, rfl, rfl, rfl, rfl, rfl, (by omega), ?_, (by omega), (fun b h => absurd h (Nat.not_lt_zero b))⟩
      · by_cases e : q_ - p_ < 7
        · refine Or.inl ⟨e, ?_⟩
          obtain rfl : i = q_ := (by omega)
          exact hx
        · refine Or.inr ⟨by omega, ?_⟩
          obtain rfl : i = p_ := (by omega)
          rw [hx, Nat.sub_self]
          rfl
    · refine And.intro ⟨(by omega), (zRb rfl)⟩ ⟨fun h16 => ?_, fun h16 => ?_⟩
      · refine ⟨(1, (10 - (0 : Nat)), 0), zlt6 (by omega), [some (zvr (k)), some (zvi (p_)), some (zvi (q_)), some (zvl (x)), none, some (zvi ((0 : Nat)))], ⟨rfl, rfl, rfl, rfl, rfl, rfl⟩, 0, x, rfl, rfl, rfl, rfl, rfl, rfl, rfl, (by omega), ?_, (by omega), (fun b h => absurd h (Nat.not_lt_zero b))⟩
        · by_cases e : q_ - p_ < 7
          · refine Or.inl ⟨e, ?_⟩
            obtain rfl : i = q_ := (by omega)
            exact hx
          · refine Or.inr ⟨by omega, ?_⟩
            obtain rfl : i = p_ := (by omega)
            rw [hx, Nat.sub_self]
            rfl
      · refine And.intro (zDX hD 0 rfl) (zrdR (v := some (k + 1)) (zDR hD 0 rfl) ?_)
        refine And.intro (zDP hD 1 rfl rfl (by omega) (by omega)) (fun v30 e30 r30 => ?_)
        have f30 : v30 = c i := (e30.trans ((congrArg (I1 (k + 1)) (by omega)).trans (x2 i (by omega))))
        have f30b : 97 ≤ v30 ∧ v30 ≤ 122 := (by have w := hs (i - p_) (by omega); rw [show p_ + (i - p_) = i by omega] at w; omega)
        have f30bb : x < 14348907 := (by have w := tNm_b hs (m := i - p_) (by omega); omega)
        refine And.intro r30 ?_
        refine ⟨(2, (10001 - (i + 1)), 0), zlt6 (by omega), [some (zvr (k)), some (zvi (p_)), some (zvi (q_)), some (zvl ((((27 * x) + v30) - 96))), none, some (zvi ((i + 1)))], ⟨rfl, rfl, rfl, rfl, rfl, rfl⟩, (i + 1), (((27 * x) + v30) - 96), rfl, rfl, rfl, rfl, rfl, rfl, rfl, (by omega), ?_, (by omega), (by first | exact h7 | (clear hQ; grind [xu]))⟩
        · rw [show i + 1 - p_ = (i - p_) + 1 by omega]
          have e : tNm c p_ (i - p_ + 1) = 27 * tNm c p_ (i - p_) + c (p_ + (i - p_)) - 96 := rfl
          rw [e, show p_ + (i - p_) = i by omega]
          omega
  · rintro nM lsM stM I1 L1 R1 S1 hz1 ⟨a, x, rfl, rfl, rfl, rfl, rfl, rfl, rfl, ha, hx, hxb, hl⟩
    refine And.intro ⟨(by omega), (zRb rfl)⟩ ⟨fun h51 => ?_, fun h51 => ?_⟩
    · refine hQ _ ?_ (by omega)
      · first
        | (rcases hx with w | w
           · exact (tKd_at (by omega) ((tCd_is (by omega) hs (by omega)).mp (by omega)) hl).symm
           · exfalso; omega)
        | (obtain rfl : a = 9 := by omega
           exact (tKd_no hl).symm)
    · refine ⟨_, sn_V_nmo.up (by decide), ?_⟩
      refine ⟨(a : Int), a, rfl, (by omega), ?_⟩
      intro v56o p56hv p56bhv2
      refine ⟨_, _, ⟨zW6i (by omega), zW6i (by omega)⟩, fun z60 c60 => ?_⟩
      refine And.intro c60.2.2 ⟨fun h61 => ?_, fun h61 => ?_⟩
      · refine ⟨(1, (10 - (a + 1)), 0), zlt6 (by omega), [some (zvr (k)), some (zvi (p_)), some (zvi (q_)), some (zvl (x)), none, some (zvi ((a + 1)))], ⟨rfl, rfl, rfl, rfl, rfl, rfl⟩, (a + 1), x, rfl, rfl, rfl, rfl, rfl, rfl, rfl, (by omega), hx, (by omega), ?_⟩
        · intro b hb
          by_cases e : b = a
          · rw [e]
            rcases hx with w | w
            · intro z
              have z1 := (tCd_is (by omega) hs (by omega : a < 9)).mpr z
              omega
            · exact tIs_l w.1 (by omega)
          · exact hl b (by omega)
      · refine hQ _ ?_ (by omega)
        · first
          | (rcases hx with w | w
             · exact (tKd_at (by omega) ((tCd_is (by omega) hs (by omega)).mp (by omega)) hl).symm
             · exfalso; omega)
          | (obtain rfl : a = 9 := by omega
             exact (tKd_no hl).symm))
