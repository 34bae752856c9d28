/-! rows -/
def T_A_at : ZT := fun args I L R S Q => ∃ (k : Nat) (rm : Nat) (c : Nat) (f : Nat → Nat → Int) (x : Nat) (y : Nat) (a : Int) (b : Int), args = [zvr k, zvi a, zvi b] ∧ (zSh S) ∧ (zRs R) ∧ (zRw rm k R S) ∧ (zRT k rm c f I) ∧ (a = x ∧ x < c) ∧ (b = y ∧ y < 6) ∧ ∀ (v : Int), (v = f x y) → (r32 v) → Q (some (zvi (v))) I L R S
theorem sn_A_at : ZSnd 1 7 1 T_A_at := ZSnd.of (zT7_1 0) (by
  rintro args I L R S Q hz ⟨k, rm, c, f, x, y, a, b, rfl, hS, hR, hW, hT, hx, hy, hQ⟩
  obtain ⟨w1, w2, w3, w4⟩ := id hT
  have h5 := hW.1
  refine And.intro rfl ?_
  refine And.intro (by omega) ⟨(fun h1 => False.elim (by omega)), fun h1 => ?_⟩
  refine And.intro (zWX hW) (zrd (v := c) w2 ?_)
  refine And.intro ⟨(by omega), (by omega)⟩ ⟨(fun h9 => False.elim (by omega)), fun h9 => ?_⟩
  refine And.intro (by omega) ⟨(fun h13 => False.elim (by omega)), fun h13 => ?_⟩
  refine And.intro ⟨(by omega), (zRb rfl)⟩ ⟨(fun h19 => False.elim (by omega)), fun h19 => ?_⟩
  refine And.intro (zRb rfl) (zbf rfl ?_)
  refine And.intro (zWX hW) (zrdR (v := some (k + 1)) (zWR hW) ?_)
  refine And.intro (zWP hW (by omega) (by omega)) (fun v42 e42 r42 => ?_)
  refine hQ _ (e42.trans ((congrArg (I (k + 1)) (by omega)).trans (w4 x y hx.2 hy.2))) (by omega))
def T_A_set : ZT := fun args I L R S Q => ∃ (k : Nat) (rm : Nat) (c : Nat) (f : Nat → Nat → Int) (x : Nat) (y : Nat) (a : Int) (b : Int) (v : Int), args = [zvr k, zvi a, zvi b, zvi v] ∧ (zSh S) ∧ (zRs R) ∧ (zRw rm k R S) ∧ (zRT k rm c f I) ∧ (a = x ∧ x < c) ∧ (b = y ∧ y < 6) ∧ (r32 v) ∧ ∀ (I' : ZI), (zRT k rm c (up2z f x y v) I') → (∀ c j : Nat, ¬ c = k + 1 → I' c j = I c j) → Q none I' L R S
theorem sn_A_set : ZSnd 1 7 4 T_A_set := ZSnd.of (zT7_4 0) (by
  rintro args I L R S Q hz ⟨k, rm, c, f, x, y, a, b, v, rfl, hS, hR, hW, hT, hx, hy, hv, hQ⟩
  obtain ⟨w1, w2, w3, w4⟩ := id hT
  have h5 := hW.1
  refine And.intro rfl ?_
  refine And.intro (by omega) ⟨(fun h1 => False.elim (by omega)), fun h1 => ?_⟩
  refine And.intro (zWX hW) (zrd (v := c) w2 ?_)
  refine And.intro ⟨(by omega), (by omega)⟩ ⟨(fun h9 => False.elim (by omega)), fun h9 => ?_⟩
  refine And.intro (by omega) ⟨(fun h13 => False.elim (by omega)), fun h13 => ?_⟩
  refine And.intro ⟨(by omega), (zRb rfl)⟩ ⟨(fun h19 => False.elim (by omega)), fun h19 => ?_⟩
  refine And.intro (zWX hW) (zrdR (v := some (k + 1)) (zWR hW) ?_)
  refine And.intro ⟨(by have := hW.1.1; show 40 ≤ _; omega), (zWP hW (by omega) (by omega))⟩ ⟨_, (zWi (by omega)), ?_⟩
  refine hQ _ ?_ (fun c j h0 => (zxu h0 rfl))
  · refine ⟨zxu (by omega) w1, zxu (by omega) w2, w3, fun p q hp hq => ?_⟩
    by_cases h : p = x ∧ q = y
    · rw [h.1, h.2, up2z_at, show 6 * x + y = (a * 6 + b).toNat by omega]
      exact zxe
    · rw [up2z_ne h]
      exact zxs (by omega) (w4 p q hp hq))
def T_A_addF : ZT := fun args I L R S Q => ∃ (k : Nat) (rm : Nat) (c : Nat) (f : Nat → Nat → Int) (a : Int) (b : Int) (d : Int) (e : Int) (g : Int), args = [zvr k, zvi a, zvi b, zvi d, zvi e, zvi g] ∧ (zSh S) ∧ (zRs R) ∧ (zRw rm k R S) ∧ (zRT k rm c f I) ∧ (c = rm) ∧ Q (some (zvi (-1))) I L R S
theorem sn_A_addF : ZSnd 1 7 0 T_A_addF := ZSnd.of (zT7_0 0) (by
  rintro args I L R S Q hz ⟨k, rm, c, f, a, b, d, e, g, rfl, hS, hR, hW, hT, hc, hQ⟩
  obtain ⟨w1, w2, w3, w4⟩ := id hT
  have h5 := hW.1
  refine And.intro rfl ?_
  refine And.intro (zWX hW) (zrd (v := c) w2 ?_)
  refine And.intro (zWX hW) (zrd (v := rm) w1 ?_)
  refine And.intro ⟨(by omega), (by omega)⟩ ⟨(fun h8 => False.elim (by omega)), fun h8 => ?_⟩
  refine hQ )
def T_A_add : ZT := fun args I L R S Q => ∃ (k : Nat) (rm : Nat) (c : Nat) (f : Nat → Nat → Int) (a : Int) (b : Int) (d : Int) (e : Int) (g : Int), args = [zvr k, zvi a, zvi b, zvi d, zvi e, zvi g] ∧ (zSh S) ∧ (zRs R) ∧ (zRw rm k R S) ∧ (zRT k rm c f I) ∧ (c < rm) ∧ (r32 a ∧ r32 b ∧ r32 d ∧ r32 e ∧ r32 g) ∧ ∀ (v : Int) (I' : ZI), (v = c) → (zRT k rm (c + 1) (upR f c a b d e g) I') → (∀ c j : Nat, ¬ c = k + 1 → ¬ (c = k ∧ j = 2) → I' c j = I c j) → Q (some (zvi (v))) I' L R S
theorem sn_A_add : ZSnd 1 7 0 T_A_add := ZSnd.of (zT7_0 0) (by
  rintro args I L R S Q hz ⟨k, rm, c, f, a, b, d, e, g, rfl, hS, hR, hW, hT, hc, hr, hQ⟩
  obtain ⟨w1, w2, w3, w4⟩ := id hT
  have h5 := hW.1
  refine And.intro rfl ?_
  refine And.intro (zWX hW) (zrd (v := c) w2 ?_)
  refine And.intro (zWX hW) (zrd (v := rm) w1 ?_)
  refine And.intro ⟨(by omega), (by omega)⟩ ⟨fun h8 => ?_, (fun h8 => False.elim (by omega))⟩
  refine And.intro (zWX hW) (zrd (v := c) w2 ?_)
  refine And.intro (zWX hW) (zrdR (v := some (k + 1)) (zWR hW) ?_)
  refine And.intro ⟨(by have := hW.1.1; show 40 ≤ _; omega), (zWP hW (by omega) (by omega))⟩ ⟨_, (zWi (by omega)), ?_⟩
  refine And.intro (zWX hW) (zrdR (v := some (k + 1)) (zWR hW) ?_)
  refine And.intro ⟨(by have := hW.1.1; show 40 ≤ _; omega), (zWP hW (by omega) (by omega))⟩ ⟨_, (zWi (by omega)), ?_⟩
  refine And.intro (zWX hW) (zrdR (v := some (k + 1)) (zWR hW) ?_)
  refine And.intro ⟨(by have := hW.1.1; show 40 ≤ _; omega), (zWP hW (by omega) (by omega))⟩ ⟨_, (zWi (by omega)), ?_⟩
  refine And.intro (zWX hW) (zrdR (v := some (k + 1)) (zWR hW) ?_)
  refine And.intro ⟨(by have := hW.1.1; show 40 ≤ _; omega), (zWP hW (by omega) (by omega))⟩ ⟨_, (zWi (by omega)), ?_⟩
  refine And.intro (zWX hW) (zrdR (v := some (k + 1)) (zWR hW) ?_)
  refine And.intro ⟨(by have := hW.1.1; show 40 ≤ _; omega), (zWP hW (by omega) (by omega))⟩ ⟨_, (zWi (by omega)), ?_⟩
  refine And.intro (zWX hW) (zrdR (v := some (k + 1)) (zWR hW) ?_)
  refine And.intro ⟨(by have := hW.1.1; show 40 ≤ _; omega), (zWP hW (by omega) (by omega))⟩ ⟨_, (zWi (zRb rfl)), ?_⟩
  refine And.intro (zWX hW) (zrd (v := c) (zxu (by omega) (zxu (by omega) (zxu (by omega) (zxu (by omega) (zxu (by omega) (zxu (by omega) w2)))))) ?_)
  refine And.intro (zWX hW) ⟨_, (zWi (by omega)), ?_⟩
  refine And.intro (zWX hW) (zrd (v := (c + 1)) zxe ?_)
  refine hQ _ _ (by omega) ?_ (fun c j h0 h1 => (zxcj h1 (zxu h0 (zxu h0 (zxu h0 (zxu h0 (zxu h0 (zxu h0 rfl))))))))
  · refine ⟨zxs (by decide) (zxu (by omega) (zxu (by omega) (zxu (by omega) (zxu (by omega) (zxu (by omega) (zxu (by omega) w1)))))), zxe.trans (by omega), hc, fun p q hp hq => ?_⟩
    refine zxu (by omega) ?_
    by_cases h : p = c
    · subst h
      unfold upR
      rw [if_pos rfl]
      have z9 : q = 0 ∨ q = 1 ∨ q = 2 ∨ q = 3 ∨ q = 4 ∨ q = 5 := by omega
      rcases z9 with rfl | rfl | rfl | rfl | rfl | rfl
      · rw [show 6 * p + 0 = ((p : Int) * 6).toNat by omega]
        exact zxs (by omega) (zxs (by omega) (zxs (by omega) (zxs (by omega) (zxs (by omega) zxe))))
      · rw [show 6 * p + 1 = ((p : Int) * 6 + 1).toNat by omega]
        exact zxs (by omega) (zxs (by omega) (zxs (by omega) (zxs (by omega) zxe)))
      · rw [show 6 * p + 2 = ((p : Int) * 6 + 2).toNat by omega]
        exact zxs (by omega) (zxs (by omega) (zxs (by omega) zxe))
      · rw [show 6 * p + 3 = ((p : Int) * 6 + 3).toNat by omega]
        exact zxs (by omega) (zxs (by omega) zxe)
      · rw [show 6 * p + 4 = ((p : Int) * 6 + 4).toNat by omega]
        exact zxs (by omega) zxe
      · rw [show 6 * p + 5 = ((p : Int) * 6 + 5).toNat by omega]
        exact zxe
    · rw [upR_ne h]
      exact zxs (by omega) (zxs (by omega) (zxs (by omega) (zxs (by omega) (zxs (by omega) (zxs (by omega) (w4 p q (by omega) hq)))))))
def T_A_atG : ZT := fun args I L R S Q => ∃ (k : Nat) (rm : Nat) (c : Nat) (f : Nat → Nat → Int) (a : Int) (b : Int), args = [zvr k, zvi a, zvi b] ∧ (zSh S) ∧ (zRs R) ∧ (zRw rm k R S) ∧ (zRT k rm c f I) ∧ (r32 a ∧ r32 b) ∧ ∀ (v : Int), ((0 ≤ a ∧ a < c ∧ 0 ≤ b ∧ b < 6 ∧ v = f a.toNat b.toNat) ∨ (¬ (0 ≤ a ∧ a < c ∧ 0 ≤ b ∧ b < 6) ∧ v = -1)) → (r32 v) → Q (some (zvi (v))) I L R S
theorem sn_A_atG : ZSnd 1 7 1 T_A_atG := ZSnd.of (zT7_1 0) (by
  rintro args I L R S Q hz ⟨k, rm, c, f, a, b, rfl, hS, hR, hW, hT, hr2, hQ⟩
  obtain ⟨w1, w2, w3, w4⟩ := id hT
  have h5 := hW.1
  refine And.intro rfl ?_
  refine And.intro (by omega) ⟨fun h1 => ?_, fun h1 => ?_⟩
  · refine And.intro (zRb rfl) (zbt rfl ?_)
    refine hQ _ ?_ (by omega)
    · first
      | exact Or.inl ⟨by omega, by omega, by omega, by omega, e42.trans ((congrArg (I (k + 1)) (by omega)).trans (w4 a.toNat b.toNat (by omega) (by omega)))⟩
      | exact Or.inr ⟨by omega, rfl⟩
  · refine And.intro (zWX hW) (zrd (v := c) w2 ?_)
    refine And.intro ⟨(by omega), (by omega)⟩ ⟨fun h9 => ?_, fun h9 => ?_⟩
    · refine And.intro (zRb rfl) (zbt rfl ?_)
      refine hQ _ ?_ (by omega)
      · first
        | exact Or.inl ⟨by omega, by omega, by omega, by omega, e42.trans ((congrArg (I (k + 1)) (by omega)).trans (w4 a.toNat b.toNat (by omega) (by omega)))⟩
        | exact Or.inr ⟨by omega, rfl⟩
    · refine And.intro (by omega) ⟨fun h13 => ?_, fun h13 => ?_⟩
      · refine And.intro (zRb rfl) (zbt rfl ?_)
        refine hQ _ ?_ (by omega)
        · first
          | exact Or.inl ⟨by omega, by omega, by omega, by omega, e42.trans ((congrArg (I (k + 1)) (by omega)).trans (w4 a.toNat b.toNat (by omega) (by omega)))⟩
          | exact Or.inr ⟨by omega, rfl⟩
      · refine And.intro ⟨(by omega), (zRb rfl)⟩ ⟨fun h19 => ?_, fun h19 => ?_⟩
        · refine And.intro (zRb rfl) (zbt rfl ?_)
          refine hQ _ ?_ (by omega)
          · first
            | exact Or.inl ⟨by omega, by omega, by omega, by omega, e42.trans ((congrArg (I (k + 1)) (by omega)).trans (w4 a.toNat b.toNat (by omega) (by omega)))⟩
            | exact Or.inr ⟨by omega, rfl⟩
        · refine And.intro (zRb rfl) (zbf rfl ?_)
          refine And.intro (zWX hW) (zrdR (v := some (k + 1)) (zWR hW) ?_)
          refine And.intro (zWP hW (by omega) (by omega)) (fun v42 e42 r42 => ?_)
          refine hQ _ ?_ (by omega)
          · first
            | exact Or.inl ⟨by omega, by omega, by omega, by omega, e42.trans ((congrArg (I (k + 1)) (by omega)).trans (w4 a.toNat b.toNat (by omega) (by omega)))⟩
            | exact Or.inr ⟨by omega, rfl⟩)
