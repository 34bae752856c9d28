/-! ko -/
def T_O_add : ZT := fun args I L R S Q => ∃ (k : Nat) (a9 : Nat) (cc : Nat) (dp : Int) (a : Int) (a_ : Nat) (b : Int), args = [zvr k, zvi a, zvi b] ∧ (zSh S) ∧ (zRs R) ∧ (zDy zT2 zF2 k R S) ∧ (I k 0 = a9) ∧ (a9 ≤ 199) ∧ (I k 10 = cc) ∧ (cc ≤ 4000) ∧ (a = a_ ∧ a_ ≤ 9) ∧ (-1 ≤ b ∧ b < a9) ∧ (0 ≤ b → I (k + 3) b.toNat = dp) ∧ (0 ≤ dp ∧ dp ≤ 1000) ∧ ∀ (v : Int) (I' : ZI) (L' : ZI), (v = a9) → (I' k 0 = a9 + 1) → (I' (k + 1) a9 = a_) → (I' (k + 2) a9 = b) → ((b = -1 ∧ I' (k + 3) a9 = 0) ∨ (0 ≤ b ∧ I' (k + 3) a9 = dp + 1)) → (∀ w, w < 2 → I' (k + 5) (2 * a9 + w) = cc ∧ I' (k + 6) (2 * a9 + w) = 0) → (∀ w, w < 5 → L' (k + 4) (5 * a9 + w) = tN0 a_ w) → (∀ c j : Nat, ¬ (c = k ∧ j = 0) → ¬ (c = k + 1 ∧ j = a9) → ¬ (c = k + 2 ∧ j = a9) → ¬ (c = k + 3 ∧ j = a9) → ¬ (c = k + 5 ∧ 2 * a9 ≤ j ∧ j < 2 * a9 + 2) → ¬ (c = k + 6 ∧ 2 * a9 ≤ j ∧ j < 2 * a9 + 2) → I' c j = I c j) → (∀ c j : Nat, ¬ (c = k + 4 ∧ 5 * a9 ≤ j ∧ j < 5 * a9 + 5) → L' c j = L c j) → Q (some (zvi (v))) I' L' R S
theorem sn_O_add : ZSnd 3 2 0 T_O_add := ZSnd.of (zT2_0 2) (by
  rintro args I L R S Q hz ⟨k, a9, cc, dp, a, a_, b, rfl, hS, hR, hD, ho0, ha9, hcc, hcc2, ha, hb, hdp, hdp2, hQ⟩
  have hk40 := hD.1
  refine And.intro rfl ?_
  refine And.intro (zDX hD 0 rfl) (zrd (v := a9) ho0 ?_)
  refine And.intro ⟨(by omega), (zRb rfl)⟩ ⟨fun h9 => ?_, (fun h9 => False.elim (by omega))⟩
  refine And.intro (zDX hD 0 rfl) (zrd (v := a9) ho0 ?_)
  refine And.intro (zDX hD 0 rfl) ⟨_, (zWi (by omega)), ?_⟩
  refine And.intro (zDX hD 0 rfl) (zrdR (v := some (k + 1)) (zDR hD 0 rfl) ?_)
  refine And.intro ⟨(by show 40 ≤ _; omega), (zDP hD 1 rfl rfl (by omega) (by omega))⟩ ⟨_, (zWi (by omega)), ?_⟩
  refine And.intro (zDX hD 0 rfl) (zrdR (v := some (k + 2)) (zDR hD 1 rfl) ?_)
  refine And.intro ⟨(by show 40 ≤ _; omega), (zDP hD 2 rfl rfl (by omega) (by omega))⟩ ⟨_, (zWi (by omega)), ?_⟩
  refine And.intro (zDX hD 0 rfl) (zrdR (v := some (k + 3)) (zDR hD 2 rfl) ?_)
  refine And.intro (by omega) ⟨fun h44 => ?_, fun h44 => ?_⟩
  · refine And.intro ⟨(by show 40 ≤ _; omega), (zDP hD 3 rfl rfl (by omega) (by omega))⟩ ⟨_, (zWi (zRb rfl)), ?_⟩
    refine And.intro ⟨(zRb rfl), (zRb rfl)⟩ (zbf rfl ?_)
    refine And.intro (zDX hD 0 rfl) (zrdR (v := some (k + 4)) (zDR hD 3 rfl) ?_)
    refine And.intro ⟨(by show 40 ≤ _; omega), (zDP hD 4 rfl rfl (by omega) (by omega))⟩ ⟨_, zW6i (zRL rfl), ?_⟩
    refine And.intro ⟨(zRb rfl), (zRb rfl)⟩ (zbf rfl ?_)
    refine And.intro (zDX hD 0 rfl) (zrdR (v := some (k + 4)) (zDR hD 3 rfl) ?_)
    refine And.intro ⟨(by show 40 ≤ _; omega), (zDP hD 4 rfl rfl (by omega) (by omega))⟩ ⟨_, zW6i (zRL rfl), ?_⟩
    refine And.intro ⟨(zRb rfl), (zRb rfl)⟩ (zbf rfl ?_)
    refine And.intro (zDX hD 0 rfl) (zrdR (v := some (k + 4)) (zDR hD 3 rfl) ?_)
    refine And.intro ⟨(by show 40 ≤ _; omega), (zDP hD 4 rfl rfl (by omega) (by omega))⟩ ⟨_, zW6i (zRL rfl), ?_⟩
    refine And.intro ⟨(zRb rfl), (zRb rfl)⟩ (zbf rfl ?_)
    refine And.intro (zDX hD 0 rfl) (zrdR (v := some (k + 4)) (zDR hD 3 rfl) ?_)
    refine And.intro ⟨(by show 40 ≤ _; omega), (zDP hD 4 rfl rfl (by omega) (by omega))⟩ ⟨_, zW6i (zRL rfl), ?_⟩
    refine And.intro ⟨(zRb rfl), (zRb rfl)⟩ (zbf rfl ?_)
    refine And.intro (zDX hD 0 rfl) (zrdR (v := some (k + 4)) (zDR hD 3 rfl) ?_)
    refine And.intro ⟨(by show 40 ≤ _; omega), (zDP hD 4 rfl rfl (by omega) (by omega))⟩ ⟨_, zW6i (zRL rfl), ?_⟩
    refine And.intro ⟨(zRb rfl), (zRb rfl)⟩ (zbt rfl ?_)
    refine And.intro ⟨(by omega), (zRb rfl)⟩ ⟨fun h95 => ?_, fun h95 => ?_⟩
    · refine And.intro ⟨(zRb rfl), (zRb rfl)⟩ (zbf rfl ?_)
      refine And.intro (zDX hD 0 rfl) (zrdR (v := some (k + 5)) (zDR hD 4 rfl) ?_)
      refine And.intro (zDX hD 0 rfl) (zrd (v := cc) (zxu (by omega) (zxu (by omega) (zxu (by omega) (zxs (by decide) hcc)))) ?_)
      refine And.intro ⟨(by show 40 ≤ _; omega), (zDP hD 5 rfl rfl (by omega) (by omega))⟩ ⟨_, (zWi (by omega)), ?_⟩
      refine And.intro (zDX hD 0 rfl) (zrdR (v := some (k + 6)) (zDR hD 5 rfl) ?_)
      refine And.intro ⟨(by show 40 ≤ _; omega), (zDP hD 6 rfl rfl (by omega) (by omega))⟩ ⟨_, (zWi (zRb rfl)), ?_⟩
      refine And.intro ⟨(zRb rfl), (zRb rfl)⟩ (zbf rfl ?_)
      refine And.intro (zDX hD 0 rfl) (zrdR (v := some (k + 5)) (zDR hD 4 rfl) ?_)
      refine And.intro (zDX hD 0 rfl) (zrd (v := cc) (zxu (by omega) (zxu (by omega) (zxu (by omega) (zxu (by omega) (zxu (by omega) (zxs (by decide) hcc)))))) ?_)
      refine And.intro ⟨(by show 40 ≤ _; omega), (zDP hD 5 rfl rfl (by omega) (by omega))⟩ ⟨_, (zWi (by omega)), ?_⟩
      refine And.intro (zDX hD 0 rfl) (zrdR (v := some (k + 6)) (zDR hD 5 rfl) ?_)
      refine And.intro ⟨(by show 40 ≤ _; omega), (zDP hD 6 rfl rfl (by omega) (by omega))⟩ ⟨_, (zWi (zRb rfl)), ?_⟩
      refine And.intro ⟨(zRb rfl), (zRb rfl)⟩ (zbt rfl ?_)
      refine hQ _ _ _ (by omega) (Eq.trans (b := ((a9 + 1) : Int)) (zxu (by omega) (zxu (by omega) (zxu (by omega) (zxu (by omega) (zxu (by omega) (zxu (by omega) (zxu (by omega) zxe))))))) (by omega)) (by clear hQ; grind [xu]) (by clear hQ; grind [xu]) (by clear hQ; grind [xu]) (by clear hQ; grind [xu]) ?_ (fun c j h0 h1 h2 h3 h4 h5 => (zxcj (by omega) (zxcj (by omega) (zxcj (by omega) (zxcj (by omega) (zxcj (by omega) (zxcj (by omega) (zxcj (by omega) (zxcj h0 rfl))))))))) (fun c j h0 => (zxcj (by omega) (zxcj (by omega) (zxcj (by omega) (zxcj (by omega) (zxcj (by omega) rfl))))))
      · intro w hw
        have qw : w = 0 ∨ w = 1 ∨ w = 2 ∨ w = 3 ∨ w = 4 := (by omega)
        unfold tN0
        rcases qw with rfl | rfl | rfl | rfl | rfl
        · rw [if_neg (by omega)]
          (first | ((repeat first | exact zxe' (by omega) | refine zxs (by omega) ?_); done) | exact (p104bfr (k + 4) _ (by omega)).trans (by repeat first | exact zxe' (by omega) | refine zxs (by omega) ?_))
        · rw [if_neg (by omega)]
          (first | ((repeat first | exact zxe' (by omega) | refine zxs (by omega) ?_); done) | exact (p104bfr (k + 4) _ (by omega)).trans (by repeat first | exact zxe' (by omega) | refine zxs (by omega) ?_))
        · first
          | (rw [if_pos ⟨by omega, rfl⟩]
             exact p104hv2)
          | (rw [if_neg (by omega)]
             (first | ((repeat first | exact zxe' (by omega) | refine zxs (by omega) ?_); done) | exact (p104bfr (k + 4) _ (by omega)).trans (by repeat first | exact zxe' (by omega) | refine zxs (by omega) ?_)))
        · rw [if_neg (by omega)]
          (first | ((repeat first | exact zxe' (by omega) | refine zxs (by omega) ?_); done) | exact (p104bfr (k + 4) _ (by omega)).trans (by repeat first | exact zxe' (by omega) | refine zxs (by omega) ?_))
        · rw [if_neg (by omega)]
          (first | ((repeat first | exact zxe' (by omega) | refine zxs (by omega) ?_); done) | exact (p104bfr (k + 4) _ (by omega)).trans (by repeat first | exact zxe' (by omega) | refine zxs (by omega) ?_))
    · refine And.intro (zDX hD 0 rfl) ⟨_, sn_O_set.up (by decide), ?_⟩
      refine ⟨k, ((a9 : Int) + 1), (a9 : Int), a9, (2 : Int), 2, (1270000 : Int), rfl, hS, hR, hD, (zxu (by omega) (zxu (by omega) (zxu (by omega) zxe))), (by omega), (by omega), (by omega), (by clear hQ; grind [xu]), ?_⟩
      intro L104o p104hv2 p104bfr
      refine And.intro ⟨(zRb rfl), (zRb rfl)⟩ (zbf rfl ?_)
      refine And.intro (zDX hD 0 rfl) (zrdR (v := some (k + 5)) (zDR hD 4 rfl) ?_)
      refine And.intro (zDX hD 0 rfl) (zrd (v := cc) (zxu (by omega) (zxu (by omega) (zxu (by omega) (zxs (by decide) hcc)))) ?_)
      refine And.intro ⟨(by show 40 ≤ _; omega), (zDP hD 5 rfl rfl (by omega) (by omega))⟩ ⟨_, (zWi (by omega)), ?_⟩
      refine And.intro (zDX hD 0 rfl) (zrdR (v := some (k + 6)) (zDR hD 5 rfl) ?_)
      refine And.intro ⟨(by show 40 ≤ _; omega), (zDP hD 6 rfl rfl (by omega) (by omega))⟩ ⟨_, (zWi (zRb rfl)), ?_⟩
      refine And.intro ⟨(zRb rfl), (zRb rfl)⟩ (zbf rfl ?_)
      refine And.intro (zDX hD 0 rfl) (zrdR (v := some (k + 5)) (zDR hD 4 rfl) ?_)
      refine And.intro (zDX hD 0 rfl) (zrd (v := cc) (zxu (by omega) (zxu (by omega) (zxu (by omega) (zxu (by omega) (zxu (by omega) (zxs (by decide) hcc)))))) ?_)
      refine And.intro ⟨(by show 40 ≤ _; omega), (zDP hD 5 rfl rfl (by omega) (by omega))⟩ ⟨_, (zWi (by omega)), ?_⟩
      refine And.intro (zDX hD 0 rfl) (zrdR (v := some (k + 6)) (zDR hD 5 rfl) ?_)
      refine And.intro ⟨(by show 40 ≤ _; omega), (zDP hD 6 rfl rfl (by omega) (by omega))⟩ ⟨_, (zWi (zRb rfl)), ?_⟩
      refine And.intro ⟨(zRb rfl), (zRb rfl)⟩ (zbt rfl ?_)
      refine hQ _ _ _ (by omega) (Eq.trans (b := ((a9 + 1) : Int)) (zxu (by omega) (zxu (by omega) (zxu (by omega) (zxu (by omega) (zxu (by omega) (zxu (by omega) (zxu (by omega) zxe))))))) (by omega)) (by clear hQ; grind [xu]) (by clear hQ; grind [xu]) (by clear hQ; grind [xu]) (by clear hQ; grind [xu]) ?_ (fun c j h0 h1 h2 h3 h4 h5 => (zxcj (by omega) (zxcj (by omega) (zxcj (by omega) (zxcj (by omega) (zxcj (by omega) (zxcj (by omega) (zxcj (by omega) (zxcj h0 rfl))))))))) (fun c j h0 => ((p104bfr c j (by omega)).trans (zxcj (by omega) (zxcj (by omega) (zxcj (by omega) (zxcj (by omega) (zxcj (by omega) rfl)))))))
      · intro w hw
        have qw : w = 0 ∨ w = 1 ∨ w = 2 ∨ w = 3 ∨ w = 4 := (by omega)
        unfold tN0
        rcases qw with rfl | rfl | rfl | rfl | rfl
        · rw [if_neg (by omega)]
          (first | ((repeat first | exact zxe' (by omega) | refine zxs (by omega) ?_); done) | exact (p104bfr (k + 4) _ (by omega)).trans (by repeat first | exact zxe' (by omega) | refine zxs (by omega) ?_))
        · rw [if_neg (by omega)]
          (first | ((repeat first | exact zxe' (by omega) | refine zxs (by omega) ?_); done) | exact (p104bfr (k + 4) _ (by omega)).trans (by repeat first | exact zxe' (by omega) | refine zxs (by omega) ?_))
        · first
          | (rw [if_pos ⟨by omega, rfl⟩]
             exact p104hv2)
          | (rw [if_neg (by omega)]
             (first | ((repeat first | exact zxe' (by omega) | refine zxs (by omega) ?_); done) | exact (p104bfr (k + 4) _ (by omega)).trans (by repeat first | exact zxe' (by omega) | refine zxs (by omega) ?_)))
        · rw [if_neg (by omega)]
          (first | ((repeat first | exact zxe' (by omega) | refine zxs (by omega) ?_); done) | exact (p104bfr (k + 4) _ (by omega)).trans (by repeat first | exact zxe' (by omega) | refine zxs (by omega) ?_))
        · rw [if_neg (by omega)]
          (first | ((repeat first | exact zxe' (by omega) | refine zxs (by omega) ?_); done) | exact (p104bfr (k + 4) _ (by omega)).trans (by repeat first | exact zxe' (by omega) | refine zxs (by omega) ?_))
  · refine And.intro ⟨(by omega), (by omega)⟩ ⟨fun h49 => ?_, (fun h49 => False.elim (by omega))⟩
    refine And.intro (zDX hD 0 rfl) (zrdR (v := some (k + 3)) (zDR hD 2 rfl) ?_)
    refine And.intro (zDP hD 3 rfl rfl (by omega) (by omega)) (fun v61 e61 r61 => ?_)
    have f61 : v61 = dp := (e61.trans (zxu (by omega) (zxu (by omega) (zxu (by omega) (hdp (by omega))))))
    refine And.intro ⟨(by show 40 ≤ _; omega), (zDP hD 3 rfl rfl (by omega) (by omega))⟩ ⟨_, (zWi (by omega)), ?_⟩
    refine And.intro ⟨(zRb rfl), (zRb rfl)⟩ (zbf rfl ?_)
    refine And.intro (zDX hD 0 rfl) (zrdR (v := some (k + 4)) (zDR hD 3 rfl) ?_)
    refine And.intro ⟨(by show 40 ≤ _; omega), (zDP hD 4 rfl rfl (by omega) (by omega))⟩ ⟨_, zW6i (zRL rfl), ?_⟩
    refine And.intro ⟨(zRb rfl), (zRb rfl)⟩ (zbf rfl ?_)
    refine And.intro (zDX hD 0 rfl) (zrdR (v := some (k + 4)) (zDR hD 3 rfl) ?_)
    refine And.intro ⟨(by show 40 ≤ _; omega), (zDP hD 4 rfl rfl (by omega) (by omega))⟩ ⟨_, zW6i (zRL rfl), ?_⟩
    refine And.intro ⟨(zRb rfl), (zRb rfl)⟩ (zbf rfl ?_)
    refine And.intro (zDX hD 0 rfl) (zrdR (v := some (k + 4)) (zDR hD 3 rfl) ?_)
    refine And.intro ⟨(by show 40 ≤ _; omega), (zDP hD 4 rfl rfl (by omega) (by omega))⟩ ⟨_, zW6i (zRL rfl), ?_⟩
    refine And.intro ⟨(zRb rfl), (zRb rfl)⟩ (zbf rfl ?_)
    refine And.intro (zDX hD 0 rfl) (zrdR (v := some (k + 4)) (zDR hD 3 rfl) ?_)
    refine And.intro ⟨(by show 40 ≤ _; omega), (zDP hD 4 rfl rfl (by omega) (by omega))⟩ ⟨_, zW6i (zRL rfl), ?_⟩
    refine And.intro ⟨(zRb rfl), (zRb rfl)⟩ (zbf rfl ?_)
    refine And.intro (zDX hD 0 rfl) (zrdR (v := some (k + 4)) (zDR hD 3 rfl) ?_)
    refine And.intro ⟨(by show 40 ≤ _; omega), (zDP hD 4 rfl rfl (by omega) (by omega))⟩ ⟨_, zW6i (zRL rfl), ?_⟩
    refine And.intro ⟨(zRb rfl), (zRb rfl)⟩ (zbt rfl ?_)
    refine And.intro ⟨(by omega), (zRb rfl)⟩ ⟨fun h95 => ?_, fun h95 => ?_⟩
    · refine And.intro ⟨(zRb rfl), (zRb rfl)⟩ (zbf rfl ?_)
      refine And.intro (zDX hD 0 rfl) (zrdR (v := some (k + 5)) (zDR hD 4 rfl) ?_)
      refine And.intro (zDX hD 0 rfl) (zrd (v := cc) (zxu (by omega) (zxu (by omega) (zxu (by omega) (zxs (by decide) hcc)))) ?_)
      refine And.intro ⟨(by show 40 ≤ _; omega), (zDP hD 5 rfl rfl (by omega) (by omega))⟩ ⟨_, (zWi (by omega)), ?_⟩
      refine And.intro (zDX hD 0 rfl) (zrdR (v := some (k + 6)) (zDR hD 5 rfl) ?_)
      refine And.intro ⟨(by show 40 ≤ _; omega), (zDP hD 6 rfl rfl (by omega) (by omega))⟩ ⟨_, (zWi (zRb rfl)), ?_⟩
      refine And.intro ⟨(zRb rfl), (zRb rfl)⟩ (zbf rfl ?_)
      refine And.intro (zDX hD 0 rfl) (zrdR (v := some (k + 5)) (zDR hD 4 rfl) ?_)
      refine And.intro (zDX hD 0 rfl) (zrd (v := cc) (zxu (by omega) (zxu (by omega) (zxu (by omega) (zxu (by omega) (zxu (by omega) (zxs (by decide) hcc)))))) ?_)
      refine And.intro ⟨(by show 40 ≤ _; omega), (zDP hD 5 rfl rfl (by omega) (by omega))⟩ ⟨_, (zWi (by omega)), ?_⟩
      refine And.intro (zDX hD 0 rfl) (zrdR (v := some (k + 6)) (zDR hD 5 rfl) ?_)
      refine And.intro ⟨(by show 40 ≤ _; omega), (zDP hD 6 rfl rfl (by omega) (by omega))⟩ ⟨_, (zWi (zRb rfl)), ?_⟩
      refine And.intro ⟨(zRb rfl), (zRb rfl)⟩ (zbt rfl ?_)
      refine hQ _ _ _ (by omega) (Eq.trans (b := ((a9 + 1) : Int)) (zxu (by omega) (zxu (by omega) (zxu (by omega) (zxu (by omega) (zxu (by omega) (zxu (by omega) (zxu (by omega) zxe))))))) (by omega)) (by clear hQ; grind [xu]) (by clear hQ; grind [xu]) (by clear hQ; grind [xu]) (by clear hQ; grind [xu]) ?_ (fun c j h0 h1 h2 h3 h4 h5 => (zxcj (by omega) (zxcj (by omega) (zxcj (by omega) (zxcj (by omega) (zxcj (by omega) (zxcj (by omega) (zxcj (by omega) (zxcj h0 rfl))))))))) (fun c j h0 => (zxcj (by omega) (zxcj (by omega) (zxcj (by omega) (zxcj (by omega) (zxcj (by omega) rfl))))))
      · intro w hw
        have qw : w = 0 ∨ w = 1 ∨ w = 2 ∨ w = 3 ∨ w = 4 := (by omega)
        unfold tN0
        rcases qw with rfl | rfl | rfl | rfl | rfl
        · rw [if_neg (by omega)]
          (first | ((repeat first | exact zxe' (by omega) | refine zxs (by omega) ?_); done) | exact (p104bfr (k + 4) _ (by omega)).trans (by repeat first | exact zxe' (by omega) | refine zxs (by omega) ?_))
        · rw [if_neg (by omega)]
          (first | ((repeat first | exact zxe' (by omega) | refine zxs (by omega) ?_); done) | exact (p104bfr (k + 4) _ (by omega)).trans (by repeat first | exact zxe' (by omega) | refine zxs (by omega) ?_))
        · first
          | (rw [if_pos ⟨by omega, rfl⟩]
             exact p104hv2)
          | (rw [if_neg (by omega)]
             (first | ((repeat first | exact zxe' (by omega) | refine zxs (by omega) ?_); done) | exact (p104bfr (k + 4) _ (by omega)).trans (by repeat first | exact zxe' (by omega) | refine zxs (by omega) ?_)))
        · rw [if_neg (by omega)]
          (first | ((repeat first | exact zxe' (by omega) | refine zxs (by omega) ?_); done) | exact (p104bfr (k + 4) _ (by omega)).trans (by repeat first | exact zxe' (by omega) | refine zxs (by omega) ?_))
        · rw [if_neg (by omega)]
          (first | ((repeat first | exact zxe' (by omega) | refine zxs (by omega) ?_); done) | exact (p104bfr (k + 4) _ (by omega)).trans (by repeat first | exact zxe' (by omega) | refine zxs (by omega) ?_))
    · refine And.intro (zDX hD 0 rfl) ⟨_, sn_O_set.up (by decide), ?_⟩
      refine ⟨k, ((a9 : Int) + 1), (a9 : Int), a9, (2 : Int), 2, (1270000 : Int), rfl, hS, hR, hD, (zxu (by omega) (zxu (by omega) (zxu (by omega) zxe))), (by omega), (by omega), (by omega), (by clear hQ; grind [xu]), ?_⟩
      intro L104o p104hv2 p104bfr
      refine And.intro ⟨(zRb rfl), (zRb rfl)⟩ (zbf rfl ?_)
      refine And.intro (zDX hD 0 rfl) (zrdR (v := some (k + 5)) (zDR hD 4 rfl) ?_)
      refine And.intro (zDX hD 0 rfl) (zrd (v := cc) (zxu (by omega) (zxu (by omega) (zxu (by omega) (zxs (by decide) hcc)))) ?_)
      refine And.intro ⟨(by show 40 ≤ _; omega), (zDP hD 5 rfl rfl (by omega) (by omega))⟩ ⟨_, (zWi (by omega)), ?_⟩
      refine And.intro (zDX hD 0 rfl) (zrdR (v := some (k + 6)) (zDR hD 5 rfl) ?_)
      refine And.intro ⟨(by show 40 ≤ _; omega), (zDP hD 6 rfl rfl (by omega) (by omega))⟩ ⟨_, (zWi (zRb rfl)), ?_⟩
      refine And.intro ⟨(zRb rfl), (zRb rfl)⟩ (zbf rfl ?_)
      refine And.intro (zDX hD 0 rfl) (zrdR (v := some (k + 5)) (zDR hD 4 rfl) ?_)
      refine And.intro (zDX hD 0 rfl) (zrd (v := cc) (zxu (by omega) (zxu (by omega) (zxu (by omega) (zxu (by omega) (zxu (by omega) (zxs (by decide) hcc)))))) ?_)
      refine And.intro ⟨(by show 40 ≤ _; omega), (zDP hD 5 rfl rfl (by omega) (by omega))⟩ ⟨_, (zWi (by omega)), ?_⟩
      refine And.intro (zDX hD 0 rfl) (zrdR (v := some (k + 6)) (zDR hD 5 rfl) ?_)
      refine And.intro ⟨(by show 40 ≤ _; omega), (zDP hD 6 rfl rfl (by omega) (by omega))⟩ ⟨_, (zWi (zRb rfl)), ?_⟩
      refine And.intro ⟨(zRb rfl), (zRb rfl)⟩ (zbt rfl ?_)
      refine hQ _ _ _ (by omega) (Eq.trans (b := ((a9 + 1) : Int)) (zxu (by omega) (zxu (by omega) (zxu (by omega) (zxu (by omega) (zxu (by omega) (zxu (by omega) (zxu (by omega) zxe))))))) (by omega)) (by clear hQ; grind [xu]) (by clear hQ; grind [xu]) (by clear hQ; grind [xu]) (by clear hQ; grind [xu]) ?_ (fun c j h0 h1 h2 h3 h4 h5 => (zxcj (by omega) (zxcj (by omega) (zxcj (by omega) (zxcj (by omega) (zxcj (by omega) (zxcj (by omega) (zxcj (by omega) (zxcj h0 rfl))))))))) (fun c j h0 => ((p104bfr c j (by omega)).trans (zxcj (by omega) (zxcj (by omega) (zxcj (by omega) (zxcj (by omega) (zxcj (by omega) rfl)))))))
      · intro w hw
        have qw : w = 0 ∨ w = 1 ∨ w = 2 ∨ w = 3 ∨ w = 4 := (by omega)
        unfold tN0
        rcases qw with rfl | rfl | rfl | rfl | rfl
        · rw [if_neg (by omega)]
          (first | ((repeat first | exact zxe' (by omega) | refine zxs (by omega) ?_); done) | exact (p104bfr (k + 4) _ (by omega)).trans (by repeat first | exact zxe' (by omega) | refine zxs (by omega) ?_))
        · rw [if_neg (by omega)]
          (first | ((repeat first | exact zxe' (by omega) | refine zxs (by omega) ?_); done) | exact (p104bfr (k + 4) _ (by omega)).trans (by repeat first | exact zxe' (by omega) | refine zxs (by omega) ?_))
        · first
          | (rw [if_pos ⟨by omega, rfl⟩]
             exact p104hv2)
          | (rw [if_neg (by omega)]
             (first | ((repeat first | exact zxe' (by omega) | refine zxs (by omega) ?_); done) | exact (p104bfr (k + 4) _ (by omega)).trans (by repeat first | exact zxe' (by omega) | refine zxs (by omega) ?_)))
        · rw [if_neg (by omega)]
          (first | ((repeat first | exact zxe' (by omega) | refine zxs (by omega) ?_); done) | exact (p104bfr (k + 4) _ (by omega)).trans (by repeat first | exact zxe' (by omega) | refine zxs (by omega) ?_))
        · rw [if_neg (by omega)]
          (first | ((repeat first | exact zxe' (by omega) | refine zxs (by omega) ?_); done) | exact (p104bfr (k + 4) _ (by omega)).trans (by repeat first | exact zxe' (by omega) | refine zxs (by omega) ?_)))
def T_K_may : ZT := fun args I L R S Q => ∃ (k : Nat) (a9 : Int) (a : Int) (a_ : Nat) (j : Int) (b : Int), args = [zvr 61, zvi a, zvi j] ∧ (zSh S) ∧ (zRs R) ∧ (zSt I L) ∧ (R 61 7 = some k) ∧ (zDy zT2 zF2 k R S) ∧ (43 ≤ k ∧ k ≤ 52) ∧ (I k 0 = a9) ∧ (0 ≤ a9 ∧ a9 ≤ 200) ∧ (a = a_ ∧ a_ ≤ 9) ∧ (-1 ≤ j ∧ j < a9) ∧ ((j = -1 ∧ b = -1) ∨ (0 ≤ j ∧ I (k + 1) j.toNat = b ∧ 0 ≤ b ∧ b ≤ 9)) ∧ ∀ (v : Int), ((v = 1 ∧ tCn a_ b) ∨ (v = 0 ∧ ¬ tCn a_ b)) → (0 ≤ v ∧ v ≤ 1) → Q (some (zvi (v))) I L R S
theorem sn_K_may : ZSnd 3 9 13 T_K_may := ZSnd.of (zT9_13 2) (by
  rintro args I L R S Q hz ⟨k, a9, a, a_, j, b, rfl, hS, hR, hT, hob, hD, hk, ho0, ha9, ha, hj, hjb, hQ⟩
  have hk1 := hk.1
  have hk2 := hk.2
  have hob_ := tHo_b a_ (by omega)
  refine And.intro rfl ?_
  refine And.intro ⟨(by omega), (zRb rfl)⟩ ⟨fun h2 => ?_, fun h2 => ?_⟩
  · refine And.intro (zP_2 hS (by omega) (by omega)) (fun v19 e19 r19 => ?_)
    have f19 : v19 = tHo a_ := (e19.trans ((congrArg (I 2) (by omega)).trans (zSt_ho hT (i := a_) (by omega))))
    refine And.intro (zA_61 hS) (zrdR (v := some k) hob ?_)
    refine And.intro (zDX hD 0 rfl) (Exists.intro _ (And.intro (zinl_ok (zT2_16 1)) (And.intro rfl ?_)))
    refine And.intro (zDX hD 0 rfl) (Exists.intro _ (And.intro (zinl_ok (zT2_14 0)) (And.intro rfl ?_)))
    refine And.intro (by omega) ⟨(fun h1_25_2 => False.elim (by omega)), fun h1_25_2 => ?_⟩
    refine And.intro (zDX hD 0 rfl) (zrd (v := a9) ho0 ?_)
    refine And.intro ⟨(by omega), (by omega)⟩ ⟨(fun h9_25_2 => False.elim (by omega)), fun h9_25_2 => ?_⟩
    refine And.intro (Or.inr rfl) ?_
    refine And.intro (zRb rfl) (zbf rfl ?_)
    refine And.intro (zDX hD 0 rfl) (zrdR (v := some (k + 1)) (zDR hD 0 rfl) ?_)
    refine And.intro (zDP hD 1 rfl rfl (by omega) (by omega)) (fun v13_25 e13_25 r13_25 => ?_)
    have f13_25 : v13_25 = b := (e13_25.trans (by omega))
    have b30 : (zand (zshr v19 v13_25) 1) = (zshr v19 v13_25) % 2 := zand1 _
    refine And.intro zr_and ⟨fun h31 => ?_, fun h31 => ?_⟩
    · refine And.intro (Or.inl rfl) ?_
      refine hQ _ ?_ (by omega)
      · first
        | (unfold tCn; first | exact Or.inl ⟨rfl, by omega⟩ | exact Or.inr ⟨rfl, by omega⟩)
        | (have hc := tHo_c a_ (by omega) b.toNat (by omega)
           have h9 := h31
           rw [f19, f13_25] at h9
           rw [Int.toNat_of_nonneg (by omega)] at hc
           first | exact Or.inl ⟨rfl, hc.mp h9⟩ | exact Or.inr ⟨rfl, fun w => hc.mpr w h9⟩)
    · refine And.intro (Or.inr rfl) ?_
      refine hQ _ ?_ (by omega)
      · first
        | (unfold tCn; first | exact Or.inl ⟨rfl, by omega⟩ | exact Or.inr ⟨rfl, by omega⟩)
        | (have hc := tHo_c a_ (by omega) b.toNat (by omega)
           have h9 := h31
           rw [f19, f13_25] at h9
           rw [Int.toNat_of_nonneg (by omega)] at hc
           first | exact Or.inl ⟨rfl, hc.mp h9⟩ | exact Or.inr ⟨rfl, fun w => hc.mpr w h9⟩)
  · refine And.intro (by omega) ⟨fun h6 => ?_, fun h6 => ?_⟩
    · refine And.intro (Or.inl rfl) ?_
      refine hQ _ ?_ (by omega)
      · first
        | (unfold tCn; first | exact Or.inl ⟨rfl, by omega⟩ | exact Or.inr ⟨rfl, by omega⟩)
        | (have hc := tHo_c a_ (by omega) b.toNat (by omega)
           have h9 := h31
           rw [f19, f13_25] at h9
           rw [Int.toNat_of_nonneg (by omega)] at hc
           first | exact Or.inl ⟨rfl, hc.mp h9⟩ | exact Or.inr ⟨rfl, fun w => hc.mpr w h9⟩)
    · refine And.intro (Or.inr rfl) ?_
      refine hQ _ ?_ (by omega)
      · first
        | (unfold tCn; first | exact Or.inl ⟨rfl, by omega⟩ | exact Or.inr ⟨rfl, by omega⟩)
        | (have hc := tHo_c a_ (by omega) b.toNat (by omega)
           have h9 := h31
           rw [f19, f13_25] at h9
           rw [Int.toNat_of_nonneg (by omega)] at hc
           first | exact Or.inl ⟨rfl, hc.mp h9⟩ | exact Or.inr ⟨rfl, fun w => hc.mpr w h9⟩))
