/-! zw -/
def T_S_tak : ZT := fun args I L R S Q => ∃ (k : Nat) (n : Nat) (e : Nat → Int) (u : Int) (z : ExR) (a : Int) (b : Int) (M : Nat), args = [zvr k, zvi u] ∧ (zSh S) ∧ (zRs R) ∧ (zDy zT8 zF8 k R S) ∧ (k = 130 ∨ k = 134) ∧ (zEt k n e I) ∧ (I k 2 = a) ∧ (I k 3 = b) ∧ ((z.1 = 1 ∧ a = z.2.1 ∧ b = -1) ∨ (z.1 = 0 ∧ b = z.2.1 ∧ 0 ≤ a ∧ a ≤ M)) ∧ (402 ≤ M ∧ M ≤ 1000) ∧ (z.2.1 ≤ n) ∧ (0 ≤ u ∧ u ≤ 126) ∧ ∀ (I' : ZI), (zEr k M (exT e u z) I') → (∀ c j : Nat, ¬ (c = k ∧ j = 2) → ¬ (c = k ∧ j = 3) → I' c j = I c j) → Q none I' L R S
theorem sn_S_tak : ZSnd 2 8 22 T_S_tak := ZSnd.of (zT8_22 1) (by
  rintro args I L R S Q hz ⟨k, n, e, u, z, a, b, M, rfl, hS, hR, hD, hk, hE, h2, h3, hzz, hM, hzn, hu, hQ⟩
  have hk130 : 130 ≤ k := by omega
  have hk134 : k ≤ 134 := by omega
  obtain ⟨hE1, hE2, hE3⟩ := id hE
  have hn4 := hE2.1
  have hb7 := hE2.2.2 z.2.1
  refine And.intro rfl ?_
  refine And.intro (zDX hD 0 rfl) (zrd (v := b) h3 ?_)
  refine And.intro ⟨(by omega), (zRb rfl)⟩ ⟨fun h5 => ?_, fun h5 => ?_⟩
  · refine And.intro (zDX hD 0 rfl) (zrd (v := a) h2 ?_)
    refine And.intro (zDX hD 0 rfl) (Exists.intro _ (And.intro (zinl_ok (zT8_2 0)) (And.intro rfl ?_)))
    refine And.intro (zDX hD 0 rfl) (zrd (v := b) h3 ?_)
    refine And.intro ⟨(by omega), (zRb rfl)⟩ ⟨fun h5_38 => ?_, (fun h5_38 => False.elim (by omega))⟩
    refine hQ _ ?_ (fun c j h0 h1 => rfl)
    · unfold exT
      first
      | (rw [if_pos (by omega), if_pos (by omega)]
         exact zEr_mk (a := a + 1) (b := b) (by first | exact zxe | exact h2 | exact h3 | (refine zxs (by omega) ?_; first | exact zxe | exact h2 | exact h3 | (refine zxs (by omega) ?_; first | exact zxe | exact h2 | exact h3 | (refine zxs (by omega) ?_; first | exact zxe | exact h2 | exact h3)))) (by first | exact zxe | exact h2 | exact h3 | (refine zxs (by omega) ?_; first | exact zxe | exact h2 | exact h3 | (refine zxs (by omega) ?_; first | exact zxe | exact h2 | exact h3 | (refine zxs (by omega) ?_; first | exact zxe | exact h2 | exact h3)))) (Or.inl ⟨rfl, (show _ = ((z.2.1 + 1 : Nat) : Int) from by omega), by omega⟩))
      | (rw [if_pos (by omega), if_neg (by omega)]
         exact zEr_mk (a := a) (b := a) (by first | exact zxe | exact h2 | exact h3 | (refine zxs (by omega) ?_; first | exact zxe | exact h2 | exact h3 | (refine zxs (by omega) ?_; first | exact zxe | exact h2 | exact h3 | (refine zxs (by omega) ?_; first | exact zxe | exact h2 | exact h3)))) (by first | exact zxe | exact h2 | exact h3 | (refine zxs (by omega) ?_; first | exact zxe | exact h2 | exact h3 | (refine zxs (by omega) ?_; first | exact zxe | exact h2 | exact h3 | (refine zxs (by omega) ?_; first | exact zxe | exact h2 | exact h3)))) (Or.inr ⟨rfl, (show _ = ((z.2.1 : Nat) : Int) from by omega), by omega, by omega⟩))
      | (rw [if_neg (by omega)]
         exact zEr_mk (a := a) (b := b) (by first | exact zxe | exact h2 | exact h3 | (refine zxs (by omega) ?_; first | exact zxe | exact h2 | exact h3 | (refine zxs (by omega) ?_; first | exact zxe | exact h2 | exact h3 | (refine zxs (by omega) ?_; first | exact zxe | exact h2 | exact h3)))) (by first | exact zxe | exact h2 | exact h3 | (refine zxs (by omega) ?_; first | exact zxe | exact h2 | exact h3 | (refine zxs (by omega) ?_; first | exact zxe | exact h2 | exact h3 | (refine zxs (by omega) ?_; first | exact zxe | exact h2 | exact h3)))) (Or.inr ⟨by omega, by omega, by omega, by omega⟩))
  · refine And.intro (zDX hD 0 rfl) (zrd (v := a) h2 ?_)
    refine And.intro (zDX hD 0 rfl) ⟨_, sn_S_let.up (by decide), ?_⟩
    refine ⟨_, n, e, (a : Int), z.2.1, rfl, hS, hR, hD, (by first | exact hk | (clear hQ; grind [xu])), hE, (by omega), ?_⟩
    intro v13o p13hv p13bhv2
    refine And.intro ⟨(by omega), (by omega)⟩ ⟨fun h17 => ?_, fun h17 => ?_⟩
    · refine And.intro (zDX hD 0 rfl) (zrd (v := a) h2 ?_)
      refine And.intro (zDX hD 0 rfl) (Exists.intro _ (And.intro (zinl_ok (zT8_2 0)) (And.intro rfl ?_)))
      refine And.intro (zDX hD 0 rfl) (zrd (v := b) h3 ?_)
      refine And.intro ⟨(by omega), (zRb rfl)⟩ ⟨(fun h5_38 => False.elim (by omega)), fun h5_38 => ?_⟩
      refine And.intro (zDX hD 0 rfl) ⟨_, (zWi (by omega)), ?_⟩
      refine hQ _ ?_ (fun c j h0 h1 => (zxcj h1 rfl))
      · unfold exT
        first
        | (rw [if_pos (by omega), if_pos (by omega)]
           exact zEr_mk (a := a + 1) (b := b) (by first | exact zxe | exact h2 | exact h3 | (refine zxs (by omega) ?_; first | exact zxe | exact h2 | exact h3 | (refine zxs (by omega) ?_; first | exact zxe | exact h2 | exact h3 | (refine zxs (by omega) ?_; first | exact zxe | exact h2 | exact h3)))) (by first | exact zxe | exact h2 | exact h3 | (refine zxs (by omega) ?_; first | exact zxe | exact h2 | exact h3 | (refine zxs (by omega) ?_; first | exact zxe | exact h2 | exact h3 | (refine zxs (by omega) ?_; first | exact zxe | exact h2 | exact h3)))) (Or.inl ⟨rfl, (show _ = ((z.2.1 + 1 : Nat) : Int) from by omega), by omega⟩))
        | (rw [if_pos (by omega), if_neg (by omega)]
           exact zEr_mk (a := a) (b := a) (by first | exact zxe | exact h2 | exact h3 | (refine zxs (by omega) ?_; first | exact zxe | exact h2 | exact h3 | (refine zxs (by omega) ?_; first | exact zxe | exact h2 | exact h3 | (refine zxs (by omega) ?_; first | exact zxe | exact h2 | exact h3)))) (by first | exact zxe | exact h2 | exact h3 | (refine zxs (by omega) ?_; first | exact zxe | exact h2 | exact h3 | (refine zxs (by omega) ?_; first | exact zxe | exact h2 | exact h3 | (refine zxs (by omega) ?_; first | exact zxe | exact h2 | exact h3)))) (Or.inr ⟨rfl, (show _ = ((z.2.1 : Nat) : Int) from by omega), by omega, by omega⟩))
        | (rw [if_neg (by omega)]
           exact zEr_mk (a := a) (b := b) (by first | exact zxe | exact h2 | exact h3 | (refine zxs (by omega) ?_; first | exact zxe | exact h2 | exact h3 | (refine zxs (by omega) ?_; first | exact zxe | exact h2 | exact h3 | (refine zxs (by omega) ?_; first | exact zxe | exact h2 | exact h3)))) (by first | exact zxe | exact h2 | exact h3 | (refine zxs (by omega) ?_; first | exact zxe | exact h2 | exact h3 | (refine zxs (by omega) ?_; first | exact zxe | exact h2 | exact h3 | (refine zxs (by omega) ?_; first | exact zxe | exact h2 | exact h3)))) (Or.inr ⟨by omega, by omega, by omega, by omega⟩))
    · refine And.intro (zDX hD 0 rfl) (zrd (v := a) h2 ?_)
      refine And.intro (zDX hD 0 rfl) ⟨_, (zWi (by omega)), ?_⟩
      refine hQ _ ?_ (fun c j h0 h1 => (zxcj h0 rfl))
      · unfold exT
        first
        | (rw [if_pos (by omega), if_pos (by omega)]
           exact zEr_mk (a := a + 1) (b := b) (by first | exact zxe | exact h2 | exact h3 | (refine zxs (by omega) ?_; first | exact zxe | exact h2 | exact h3 | (refine zxs (by omega) ?_; first | exact zxe | exact h2 | exact h3 | (refine zxs (by omega) ?_; first | exact zxe | exact h2 | exact h3)))) (by first | exact zxe | exact h2 | exact h3 | (refine zxs (by omega) ?_; first | exact zxe | exact h2 | exact h3 | (refine zxs (by omega) ?_; first | exact zxe | exact h2 | exact h3 | (refine zxs (by omega) ?_; first | exact zxe | exact h2 | exact h3)))) (Or.inl ⟨rfl, (show _ = ((z.2.1 + 1 : Nat) : Int) from by omega), by omega⟩))
        | (rw [if_pos (by omega), if_neg (by omega)]
           exact zEr_mk (a := a) (b := a) (by first | exact zxe | exact h2 | exact h3 | (refine zxs (by omega) ?_; first | exact zxe | exact h2 | exact h3 | (refine zxs (by omega) ?_; first | exact zxe | exact h2 | exact h3 | (refine zxs (by omega) ?_; first | exact zxe | exact h2 | exact h3)))) (by first | exact zxe | exact h2 | exact h3 | (refine zxs (by omega) ?_; first | exact zxe | exact h2 | exact h3 | (refine zxs (by omega) ?_; first | exact zxe | exact h2 | exact h3 | (refine zxs (by omega) ?_; first | exact zxe | exact h2 | exact h3)))) (Or.inr ⟨rfl, (show _ = ((z.2.1 : Nat) : Int) from by omega), by omega, by omega⟩))
        | (rw [if_neg (by omega)]
           exact zEr_mk (a := a) (b := b) (by first | exact zxe | exact h2 | exact h3 | (refine zxs (by omega) ?_; first | exact zxe | exact h2 | exact h3 | (refine zxs (by omega) ?_; first | exact zxe | exact h2 | exact h3 | (refine zxs (by omega) ?_; first | exact zxe | exact h2 | exact h3)))) (by first | exact zxe | exact h2 | exact h3 | (refine zxs (by omega) ?_; first | exact zxe | exact h2 | exact h3 | (refine zxs (by omega) ?_; first | exact zxe | exact h2 | exact h3 | (refine zxs (by omega) ?_; first | exact zxe | exact h2 | exact h3)))) (Or.inr ⟨by omega, by omega, by omega, by omega⟩)))
def T_S_exE : ZT := fun args I L R S Q => ∃ (k : Nat) (n : Nat) (e : Nat → Int) (z : ExR) (M : Nat), args = [zvr k, zvi 0] ∧ (zSh S) ∧ (zRs R) ∧ (zDy zT8 zF8 k R S) ∧ (k = 130 ∨ k = 134) ∧ (zEt k n e I) ∧ (zEr k M z I) ∧ (405 ≤ M ∧ M ≤ 1000) ∧ (exW n z) ∧ ∀ (I' : ZI), (zEr k M (exG e z) I') → (∀ c j : Nat, ¬ (c = k ∧ j = 2) → ¬ (c = k ∧ j = 3) → I' c j = I c j) → Q none I' L R S
theorem sn_S_exE : ZSnd 26 8 15 T_S_exE := by
  rintro d hd args I L R S Q hz ⟨k, n, e, z, M, rfl, hS, hR, hD, hk, hE, hzz, hM, hzn, hQ⟩
  rcases (show (z.1 = 1 ∧ I k 2 = z.2.1 ∧ I k 3 = -1) ∨ (z.1 = 0 ∧ I k 3 = z.2.1 ∧ 0 ≤ I k 2 ∧ I k 2 ≤ M) from hzz) with q | q
  · refine sn_S_ex3 d (Nat.le_trans (by decide) hd) _ I L R S Q hz ⟨k, n, e, z.2.1, rfl, hS, hR, hD, hk, hE, hzn.2, q.2.1, q.2.2, fun I' f1 f2 => hQ I' ?_ f2⟩
    have z9 : exG e z = exEx e 3 z.2.1 := if_pos q.1
    rw [z9]
    exact zEr_m f1 (by omega)
  · refine sn_S_exF d (Nat.le_trans (by decide) hd) _ I L R S Q hz ⟨k, n, e, 0, I k 3, rfl, hS, hR, hD, hk, hE, rfl, ?_, by omega, hQ I ?_ (fun _ _ _ _ => rfl)⟩
    · have z8 := hzn.2
      have z7 := hE.2.1.1
      omega
    · have z9 : exG e z = z := if_neg (by omega)
      rw [z9]
      exact hzz

def T_S_atE : ZT := fun args I L R S Q => ∃ (k : Nat) (n : Nat) (e : Nat → Int) (z : ExR) (M : Nat), args = [zvr k, zvi 0] ∧ (zSh S) ∧ (zRs R) ∧ (zDy zT8 zF8 k R S) ∧ (k = 130 ∨ k = 134) ∧ (zEt k n e I) ∧ (zEr k M z I) ∧ (405 ≤ M ∧ M ≤ 1000) ∧ (exW n z) ∧ ∀ (I' : ZI), (zEr k M (exH e z) I') → (∀ c j : Nat, ¬ (c = k ∧ j = 2) → ¬ (c = k ∧ j = 3) → I' c j = I c j) → Q none I' L R S
theorem sn_S_atE : ZSnd 23 8 11 T_S_atE := by
  rintro d hd args I L R S Q hz ⟨k, n, e, z, M, rfl, hS, hR, hD, hk, hE, hzz, hM, hzn, hQ⟩
  rcases (show (z.1 = 1 ∧ I k 2 = z.2.1 ∧ I k 3 = -1) ∨ (z.1 = 0 ∧ I k 3 = z.2.1 ∧ 0 ≤ I k 2 ∧ I k 2 ≤ M) from hzz) with q | q
  · refine sn_S_at3 d (Nat.le_trans (by decide) hd) _ I L R S Q hz ⟨k, n, e, z.2.1, rfl, hS, hR, hD, hk, hE, hzn.2, q.2.1, q.2.2, fun I' f1 f2 => hQ I' ?_ f2⟩
    have z9 : exH e z = exAt e 3 z.2.1 := if_pos q.1
    rw [z9]
    exact zEr_m f1 (by omega)
  · refine sn_S_atF d (Nat.le_trans (by decide) hd) _ I L R S Q hz ⟨k, n, e, 0, I k 3, rfl, hS, hR, hD, hk, hE, rfl, ?_, by omega, hQ I ?_ (fun _ _ _ _ => rfl)⟩
    · have z8 := hzn.2
      have z7 := hE.2.1.1
      omega
    · have z9 : exH e z = z := if_neg (by omega)
      rw [z9]
      exact hzz

