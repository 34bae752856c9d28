/-! zz3 -/
def T_S_bk2 : ZT := fun args I L R S Q => ∃ (k : Nat) (n : Nat) (e : Nat → Int) (x : StR) (M : Nat) (u : Int) (w : Int), args = [zvr k, zvi 2, zvi u, zvi w] ∧ (zSh S) ∧ (zRs R) ∧ (zDy zT8 zF8 k R S) ∧ (k = 130 ∨ k = 134) ∧ (zEt k n e I) ∧ (zSr k M x I) ∧ (402 ≤ M ∧ M ≤ 1000) ∧ (srV n 0 x) ∧ ((0 ≤ u ∧ u ≤ 126) ∧ 0 ≤ w ∧ w ≤ 126) ∧ ∀ (I' : ZI), (zSr k M (bk2 e u w x) I') → (∀ c j : Nat, ¬ (c = k ∧ j = 2) → ¬ (c = k ∧ j = 3) → ¬ (c = k ∧ j = 4) → ¬ c = k + 2 → ¬ c = k + 3 → I' c j = I c j) → Q none I' L R S
theorem sn_S_bk2 : ZSnd 8 8 12 T_S_bk2 := ZSnd.of (zT8_12 7) (by
  rintro args I L R S Q hz ⟨k, n, e, x, M, u, w, rfl, hS, hR, hD, hk, hE, hx, hM, hxn, hu, hQ⟩
  have hk130 : 130 ≤ k := by omega
  have hk134 : k ≤ 134 := by omega
  obtain ⟨hE1, hE2, hE3⟩ := id hE
  have hn4 := hE2.1
  have hxv := srV_n hxn
  have hxa : (x.1 = 1 ∧ I k 2 = x.2.1 ∧ I k 3 = -1 ∧ I k 4 = x.2.2.1) ∨ (x.1 = 0 ∧ I k 3 = x.2.1 ∧ 0 ≤ I k 2 ∧ I k 2 ≤ M ∧ 0 ≤ I k 4 ∧ I k 4 ≤ 200) := zSr_n hx
  have hb7 := hE2.2.2 x.2.1
  refine And.intro rfl ?_
  refine And.intro (zDX hD 0 rfl) (Exists.intro _ (And.intro (zinl_ok (zT8_8 6)) (And.intro rfl ?_)))
  refine And.intro (zDX hD 0 rfl) (fun v1_2 e1_2 r1_2 => ?_)
  refine And.intro ⟨r1_2, (zRb rfl)⟩ ⟨fun h5_2 => ?_, fun h5_2 => ?_⟩
  · refine And.intro (Or.inl rfl) ?_
    refine And.intro (zRb rfl) (zbt rfl ?_)
    refine And.intro (zDX hD 0 rfl) (fun v15 e15 r15 => ?_)
    refine And.intro (zDX hD 0 rfl) (Exists.intro _ (And.intro (zinl_ok (zT8_2 6)) (And.intro rfl ?_)))
    refine And.intro (zDX hD 0 rfl) (fun v1_18 e1_18 r1_18 => ?_)
    refine And.intro ⟨r1_18, (zRb rfl)⟩ ⟨fun h5_18 => ?_, fun h5_18 => ?_⟩
    · refine hQ _ ?_ (fun c j h0 h1 h2 h3 h4 => rfl)
      · show zSr k M (if x.1 = 1 then srF x x.2.1 else x) _
        first
        | (rw [if_neg (by omega)]; exact hx)
        | (rw [if_pos (by omega)]; exact zSr_F (zxe.trans (by omega)) (by rw [show (_ : Int) = I k 2 from (zxs (by omega) rfl)]; omega) (by rw [show (_ : Int) = I k 4 from (zxs (by omega) rfl)]; omega))
    · refine And.intro (zDX hD 0 rfl) ⟨_, (zWi r15), ?_⟩
      refine hQ _ ?_ (fun c j h0 h1 h2 h3 h4 => (zxcj h1 rfl))
      · show zSr k M (if x.1 = 1 then srF x x.2.1 else x) _
        first
        | (rw [if_neg (by omega)]; exact hx)
        | (rw [if_pos (by omega)]; exact zSr_F (zxe.trans (by omega)) (by rw [show (_ : Int) = I k 2 from (zxs (by omega) rfl)]; omega) (by rw [show (_ : Int) = I k 4 from (zxs (by omega) rfl)]; omega))
  · refine And.intro (zDX hD 0 rfl) (fun v10_2 e10_2 r10_2 => ?_)
    refine And.intro (zDX hD 0 rfl) ⟨_, sn_S_let.up (by decide), ?_⟩
    refine ⟨_, n, e, (v10_2 : Int), x.2.1, rfl, hS, hR, hD, (by first | exact hk | (clear hQ; grind [xu])), (by first | exact (zEt_fr hE (fun c j h => rfl)) | (clear hQ; grind [xu])), (by omega), ?_⟩
    intro v13_2o p13_2hv p13_2bhv2
    refine And.intro ⟨(by omega), (by omega)⟩ ⟨fun h17_2 => ?_, fun h17_2 => ?_⟩
    · refine And.intro (Or.inl rfl) ?_
      refine And.intro (zRb rfl) (zbt rfl ?_)
      refine And.intro (zDX hD 0 rfl) (fun v15 e15 r15 => ?_)
      refine And.intro (zDX hD 0 rfl) (Exists.intro _ (And.intro (zinl_ok (zT8_2 6)) (And.intro rfl ?_)))
      refine And.intro (zDX hD 0 rfl) (fun v1_18 e1_18 r1_18 => ?_)
      refine And.intro ⟨r1_18, (zRb rfl)⟩ ⟨fun h5_18 => ?_, fun h5_18 => ?_⟩
      · refine hQ _ ?_ (fun c j h0 h1 h2 h3 h4 => rfl)
        · show zSr k M (if x.1 = 1 then srF x x.2.1 else x) _
          first
          | (rw [if_neg (by omega)]; exact hx)
          | (rw [if_pos (by omega)]; exact zSr_F (zxe.trans (by omega)) (by rw [show (_ : Int) = I k 2 from (zxs (by omega) rfl)]; omega) (by rw [show (_ : Int) = I k 4 from (zxs (by omega) rfl)]; omega))
      · refine And.intro (zDX hD 0 rfl) ⟨_, (zWi r15), ?_⟩
        refine hQ _ ?_ (fun c j h0 h1 h2 h3 h4 => (zxcj h1 rfl))
        · show zSr k M (if x.1 = 1 then srF x x.2.1 else x) _
          first
          | (rw [if_neg (by omega)]; exact hx)
          | (rw [if_pos (by omega)]; exact zSr_F (zxe.trans (by omega)) (by rw [show (_ : Int) = I k 2 from (zxs (by omega) rfl)]; omega) (by rw [show (_ : Int) = I k 4 from (zxs (by omega) rfl)]; omega))
    · refine And.intro (Or.inr rfl) ?_
      refine And.intro (zRb rfl) (zbf rfl ?_)
      refine And.intro ⟨(zRb rfl), (zRb rfl)⟩ (zbf rfl ?_)
      refine And.intro (zDX hD 0 rfl) (fun v15 e15 r15 => ?_)
      refine And.intro (zDX hD 0 rfl) (Exists.intro _ (And.intro (zinl_ok (zT8_2 6)) (And.intro rfl ?_)))
      refine And.intro (zDX hD 0 rfl) (fun v1_18 e1_18 r1_18 => ?_)
      refine And.intro ⟨r1_18, (zRb rfl)⟩ ⟨fun h5_18 => ?_, fun h5_18 => ?_⟩
      · refine hQ _ ?_ (fun c j h0 h1 h2 h3 h4 => rfl)
        · show zSr k M (if x.1 = 1 then srF x x.2.1 else x) _
          first
          | (rw [if_neg (by omega)]; exact hx)
          | (rw [if_pos (by omega)]; exact zSr_F (zxe.trans (by omega)) (by rw [show (_ : Int) = I k 2 from (zxs (by omega) rfl)]; omega) (by rw [show (_ : Int) = I k 4 from (zxs (by omega) rfl)]; omega))
      · refine And.intro (zDX hD 0 rfl) ⟨_, (zWi r15), ?_⟩
        refine hQ _ ?_ (fun c j h0 h1 h2 h3 h4 => (zxcj h1 rfl))
        · show zSr k M (if x.1 = 1 then srF x x.2.1 else x) _
          first
          | (rw [if_neg (by omega)]; exact hx)
          | (rw [if_pos (by omega)]; exact zSr_F (zxe.trans (by omega)) (by rw [show (_ : Int) = I k 2 from (zxs (by omega) rfl)]; omega) (by rw [show (_ : Int) = I k 4 from (zxs (by omega) rfl)]; omega)))
def T_S_fn2 : ZT := fun args I L R S Q => ∃ (k : Nat) (n : Nat) (e : Nat → Int) (x : StR) (p : Nat), args = [zvr k, zvi 2, zvi p] ∧ (zSh S) ∧ (zRs R) ∧ (zDy zT8 zF8 k R S) ∧ (k = 130 ∨ k = 134) ∧ (zEt k n e I) ∧ (I k 2 = p + 1) ∧ (I k 3 = -1) ∧ (I k 4 = x.2.2.1) ∧ (∀ q : Nat, q < 400 → I (k + 2) q = x.2.2.2.1 q) ∧ (∀ f : Nat, f < 26 → I (k + 3) f = x.2.2.2.2 f) ∧ (p < n) ∧ (x.2.2.1 ≤ 100) ∧ ∀ (I' : ZI), (zSr k 410 (srFn e (bk2 e) false p x) I') → (∀ c j : Nat, ¬ (c = k ∧ j = 2) → ¬ (c = k ∧ j = 3) → ¬ (c = k ∧ j = 4) → ¬ c = k + 2 → ¬ c = k + 3 → I' c j = I c j) → Q none I' L R S
theorem sn_S_fn2 : ZSnd 12 8 17 T_S_fn2 := ZSnd.of (zT8_17 11) (by
  rintro args I L R S Q hz ⟨k, n, e, x, p, rfl, hS, hR, hD, hk, hE, h2, hf3, hc4, hcl, hfn, hp, hm, hQ⟩
  have hk130 : 130 ≤ k := by omega
  have hk134 : k ≤ 134 := by omega
  obtain ⟨hE1, hE2, hE3⟩ := id hE
  have hn4 := hE2.1
  have hb9 := hE2.2.2 (p + 1)
  refine And.intro rfl ?_
  refine And.intro (zDX hD 0 rfl) (zrd (v := (p + 1)) h2 ?_)
  refine And.intro (zDX hD 0 rfl) ⟨_, sn_S_let.up (by decide), ?_⟩
  refine ⟨_, n, e, ((p + 1) : Int), (p + 1), rfl, hS, hR, hD, (by first | exact hk | (clear hQ; grind [xu])), hE, (by omega), ?_⟩
  intro v5o p5hv p5bhv2
  refine Exists.intro _ (And.intro (zinl_ok (zT8_7 10)) (And.intro rfl ?_))
  refine And.intro ⟨(by omega), (zRb rfl)⟩ ⟨fun h3_10 => ?_, fun h3_10 => ?_⟩
  · refine And.intro (Or.inl rfl) ?_
    refine And.intro (zRb rfl) (zbf rfl ?_)
    refine And.intro (zDX hD 0 rfl) (zrd (v := (p + 1)) h2 ?_)
    refine And.intro (zDX hD 0 rfl) (Exists.intro _ (And.intro (zinl_ok (zT8_2 10)) (And.intro rfl ?_)))
    refine And.intro (zDX hD 0 rfl) (zrd (v := (-1)) hf3 ?_)
    refine And.intro ⟨(zRb rfl), (zRb rfl)⟩ (zbf rfl ?_)
    refine And.intro (zDX hD 0 rfl) ⟨_, (zWi (by omega)), ?_⟩
    refine hQ _ ?_ (fun c j h0 h1 h2 h3 h4 => (zxcj h1 rfl))
    · unfold srFn
      first
      | (rw [if_neg (by omega)]
         exact zSr_f (a := p + 1) (b := p + 1) (d := x.2.2.1) (by first | exact zxe | exact h2 | exact hf3 | exact hc4 | (refine zxs (by omega) ?_; first | exact zxe | exact h2 | exact hf3 | exact hc4 | (refine zxs (by omega) ?_; first | exact zxe | exact h2 | exact hf3 | exact hc4 | (refine zxs (by omega) ?_; first | exact zxe | exact h2 | exact hf3 | exact hc4 | (refine zxs (by omega) ?_; first | exact zxe | exact h2 | exact hf3 | exact hc4))))) (by first | exact zxe | exact h2 | exact hf3 | exact hc4 | (refine zxs (by omega) ?_; first | exact zxe | exact h2 | exact hf3 | exact hc4 | (refine zxs (by omega) ?_; first | exact zxe | exact h2 | exact hf3 | exact hc4 | (refine zxs (by omega) ?_; first | exact zxe | exact h2 | exact hf3 | exact hc4 | (refine zxs (by omega) ?_; first | exact zxe | exact h2 | exact hf3 | exact hc4))))) (by first | exact zxe | exact h2 | exact hf3 | exact hc4 | (refine zxs (by omega) ?_; first | exact zxe | exact h2 | exact hf3 | exact hc4 | (refine zxs (by omega) ?_; first | exact zxe | exact h2 | exact hf3 | exact hc4 | (refine zxs (by omega) ?_; first | exact zxe | exact h2 | exact hf3 | exact hc4 | (refine zxs (by omega) ?_; first | exact zxe | exact h2 | exact hf3 | exact hc4))))) (by omega) (by omega) (by omega))
      | (rw [if_pos (by omega), if_neg (fun q => absurd q.1 (by decide))]
         exact zSr_f (a := p + 1) (b := p) (d := x.2.2.1) (by first | exact zxe | exact h2 | exact hf3 | exact hc4 | (refine zxs (by omega) ?_; first | exact zxe | exact h2 | exact hf3 | exact hc4 | (refine zxs (by omega) ?_; first | exact zxe | exact h2 | exact hf3 | exact hc4 | (refine zxs (by omega) ?_; first | exact zxe | exact h2 | exact hf3 | exact hc4 | (refine zxs (by omega) ?_; first | exact zxe | exact h2 | exact hf3 | exact hc4))))) (by first | exact zxe | exact h2 | exact hf3 | exact hc4 | (refine zxs (by omega) ?_; first | exact zxe | exact h2 | exact hf3 | exact hc4 | (refine zxs (by omega) ?_; first | exact zxe | exact h2 | exact hf3 | exact hc4 | (refine zxs (by omega) ?_; first | exact zxe | exact h2 | exact hf3 | exact hc4 | (refine zxs (by omega) ?_; first | exact zxe | exact h2 | exact hf3 | exact hc4))))) (by first | exact zxe | exact h2 | exact hf3 | exact hc4 | (refine zxs (by omega) ?_; first | exact zxe | exact h2 | exact hf3 | exact hc4 | (refine zxs (by omega) ?_; first | exact zxe | exact h2 | exact hf3 | exact hc4 | (refine zxs (by omega) ?_; first | exact zxe | exact h2 | exact hf3 | exact hc4 | (refine zxs (by omega) ?_; first | exact zxe | exact h2 | exact hf3 | exact hc4))))) (by omega) (by omega) (by omega))
  · refine And.intro ⟨(by omega), (zRb rfl)⟩ ⟨fun h9_10 => ?_, fun h9_10 => ?_⟩
    · refine And.intro (Or.inl rfl) ?_
      refine And.intro (zRb rfl) (zbf rfl ?_)
      refine And.intro (zDX hD 0 rfl) (zrd (v := (p + 1)) h2 ?_)
      refine And.intro (zDX hD 0 rfl) (Exists.intro _ (And.intro (zinl_ok (zT8_2 10)) (And.intro rfl ?_)))
      refine And.intro (zDX hD 0 rfl) (zrd (v := (-1)) hf3 ?_)
      refine And.intro ⟨(zRb rfl), (zRb rfl)⟩ (zbf rfl ?_)
      refine And.intro (zDX hD 0 rfl) ⟨_, (zWi (by omega)), ?_⟩
      refine hQ _ ?_ (fun c j h0 h1 h2 h3 h4 => (zxcj h1 rfl))
      · unfold srFn
        first
        | (rw [if_neg (by omega)]
           exact zSr_f (a := p + 1) (b := p + 1) (d := x.2.2.1) (by first | exact zxe | exact h2 | exact hf3 | exact hc4 | (refine zxs (by omega) ?_; first | exact zxe | exact h2 | exact hf3 | exact hc4 | (refine zxs (by omega) ?_; first | exact zxe | exact h2 | exact hf3 | exact hc4 | (refine zxs (by omega) ?_; first | exact zxe | exact h2 | exact hf3 | exact hc4 | (refine zxs (by omega) ?_; first | exact zxe | exact h2 | exact hf3 | exact hc4))))) (by first | exact zxe | exact h2 | exact hf3 | exact hc4 | (refine zxs (by omega) ?_; first | exact zxe | exact h2 | exact hf3 | exact hc4 | (refine zxs (by omega) ?_; first | exact zxe | exact h2 | exact hf3 | exact hc4 | (refine zxs (by omega) ?_; first | exact zxe | exact h2 | exact hf3 | exact hc4 | (refine zxs (by omega) ?_; first | exact zxe | exact h2 | exact hf3 | exact hc4))))) (by first | exact zxe | exact h2 | exact hf3 | exact hc4 | (refine zxs (by omega) ?_; first | exact zxe | exact h2 | exact hf3 | exact hc4 | (refine zxs (by omega) ?_; first | exact zxe | exact h2 | exact hf3 | exact hc4 | (refine zxs (by omega) ?_; first | exact zxe | exact h2 | exact hf3 | exact hc4 | (refine zxs (by omega) ?_; first | exact zxe | exact h2 | exact hf3 | exact hc4))))) (by omega) (by omega) (by omega))
        | (rw [if_pos (by omega), if_neg (fun q => absurd q.1 (by decide))]
           exact zSr_f (a := p + 1) (b := p) (d := x.2.2.1) (by first | exact zxe | exact h2 | exact hf3 | exact hc4 | (refine zxs (by omega) ?_; first | exact zxe | exact h2 | exact hf3 | exact hc4 | (refine zxs (by omega) ?_; first | exact zxe | exact h2 | exact hf3 | exact hc4 | (refine zxs (by omega) ?_; first | exact zxe | exact h2 | exact hf3 | exact hc4 | (refine zxs (by omega) ?_; first | exact zxe | exact h2 | exact hf3 | exact hc4))))) (by first | exact zxe | exact h2 | exact hf3 | exact hc4 | (refine zxs (by omega) ?_; first | exact zxe | exact h2 | exact hf3 | exact hc4 | (refine zxs (by omega) ?_; first | exact zxe | exact h2 | exact hf3 | exact hc4 | (refine zxs (by omega) ?_; first | exact zxe | exact h2 | exact hf3 | exact hc4 | (refine zxs (by omega) ?_; first | exact zxe | exact h2 | exact hf3 | exact hc4))))) (by first | exact zxe | exact h2 | exact hf3 | exact hc4 | (refine zxs (by omega) ?_; first | exact zxe | exact h2 | exact hf3 | exact hc4 | (refine zxs (by omega) ?_; first | exact zxe | exact h2 | exact hf3 | exact hc4 | (refine zxs (by omega) ?_; first | exact zxe | exact h2 | exact hf3 | exact hc4 | (refine zxs (by omega) ?_; first | exact zxe | exact h2 | exact hf3 | exact hc4))))) (by omega) (by omega) (by omega))
    · refine And.intro (Or.inr rfl) ?_
      refine And.intro (zRb rfl) (zbt rfl ?_)
      refine And.intro (zRb rfl) (zbt rfl ?_)
      refine And.intro (zDX hD 0 rfl) (Exists.intro _ (And.intro (zinl_ok (zT8_2 10)) (And.intro rfl ?_)))
      refine And.intro (zDX hD 0 rfl) (zrd (v := (-1)) hf3 ?_)
      refine And.intro ⟨(zRb rfl), (zRb rfl)⟩ (zbf rfl ?_)
      refine And.intro (zDX hD 0 rfl) ⟨_, (zWi (by omega)), ?_⟩
      refine hQ _ ?_ (fun c j h0 h1 h2 h3 h4 => (zxcj h1 rfl))
      · unfold srFn
        first
        | (rw [if_neg (by omega)]
           exact zSr_f (a := p + 1) (b := p + 1) (d := x.2.2.1) (by first | exact zxe | exact h2 | exact hf3 | exact hc4 | (refine zxs (by omega) ?_; first | exact zxe | exact h2 | exact hf3 | exact hc4 | (refine zxs (by omega) ?_; first | exact zxe | exact h2 | exact hf3 | exact hc4 | (refine zxs (by omega) ?_; first | exact zxe | exact h2 | exact hf3 | exact hc4 | (refine zxs (by omega) ?_; first | exact zxe | exact h2 | exact hf3 | exact hc4))))) (by first | exact zxe | exact h2 | exact hf3 | exact hc4 | (refine zxs (by omega) ?_; first | exact zxe | exact h2 | exact hf3 | exact hc4 | (refine zxs (by omega) ?_; first | exact zxe | exact h2 | exact hf3 | exact hc4 | (refine zxs (by omega) ?_; first | exact zxe | exact h2 | exact hf3 | exact hc4 | (refine zxs (by omega) ?_; first | exact zxe | exact h2 | exact hf3 | exact hc4))))) (by first | exact zxe | exact h2 | exact hf3 | exact hc4 | (refine zxs (by omega) ?_; first | exact zxe | exact h2 | exact hf3 | exact hc4 | (refine zxs (by omega) ?_; first | exact zxe | exact h2 | exact hf3 | exact hc4 | (refine zxs (by omega) ?_; first | exact zxe | exact h2 | exact hf3 | exact hc4 | (refine zxs (by omega) ?_; first | exact zxe | exact h2 | exact hf3 | exact hc4))))) (by omega) (by omega) (by omega))
        | (rw [if_pos (by omega), if_neg (fun q => absurd q.1 (by decide))]
           exact zSr_f (a := p + 1) (b := p) (d := x.2.2.1) (by first | exact zxe | exact h2 | exact hf3 | exact hc4 | (refine zxs (by omega) ?_; first | exact zxe | exact h2 | exact hf3 | exact hc4 | (refine zxs (by omega) ?_; first | exact zxe | exact h2 | exact hf3 | exact hc4 | (refine zxs (by omega) ?_; first | exact zxe | exact h2 | exact hf3 | exact hc4 | (refine zxs (by omega) ?_; first | exact zxe | exact h2 | exact hf3 | exact hc4))))) (by first | exact zxe | exact h2 | exact hf3 | exact hc4 | (refine zxs (by omega) ?_; first | exact zxe | exact h2 | exact hf3 | exact hc4 | (refine zxs (by omega) ?_; first | exact zxe | exact h2 | exact hf3 | exact hc4 | (refine zxs (by omega) ?_; first | exact zxe | exact h2 | exact hf3 | exact hc4 | (refine zxs (by omega) ?_; first | exact zxe | exact h2 | exact hf3 | exact hc4))))) (by first | exact zxe | exact h2 | exact hf3 | exact hc4 | (refine zxs (by omega) ?_; first | exact zxe | exact h2 | exact hf3 | exact hc4 | (refine zxs (by omega) ?_; first | exact zxe | exact h2 | exact hf3 | exact hc4 | (refine zxs (by omega) ?_; first | exact zxe | exact h2 | exact hf3 | exact hc4 | (refine zxs (by omega) ?_; first | exact zxe | exact h2 | exact hf3 | exact hc4))))) (by omega) (by omega) (by omega)))
def T_S_bs2 : ZT := fun args I L R S Q => ∃ (k : Nat) (n : Nat) (e : Nat → Int) (x : StR) (p : Nat) (u : Int), args = [zvr k, zvi u, zvi 2] ∧ (zSh S) ∧ (zRs R) ∧ (zDy zT8 zF8 k R S) ∧ (k = 130 ∨ k = 134) ∧ (zEt k n e I) ∧ (I k 2 = p) ∧ (I k 3 = -1) ∧ (I k 4 = x.2.2.1) ∧ (∀ q : Nat, q < 400 → I (k + 2) q = x.2.2.2.1 q) ∧ (∀ f : Nat, f < 26 → I (k + 3) f = x.2.2.2.2 f) ∧ (x.1 = 1 ∧ x.2.1 = p) ∧ (p < n) ∧ (x.2.2.1 ≤ 100) ∧ (u = e p) ∧ (u = 63 ∨ u = 42 ∨ u = 126 ∨ u = 91 ∨ u = 58) ∧ ∀ (I' : ZI), (zSr k 410 (srS e (bk2 e) false p x) I') → (∀ c j : Nat, ¬ (c = k ∧ j = 2) → ¬ (c = k ∧ j = 3) → ¬ (c = k ∧ j = 4) → ¬ c = k + 2 → ¬ c = k + 3 → I' c j = I c j) → Q none I' L R S
theorem sn_S_bs2 : ZSnd 40 8 13 T_S_bs2 := ZSnd.of (zT8_13 39) (by
  rintro args I L R S Q hz ⟨k, n, e, x, p, u, rfl, hS, hR, hD, hk, hE, h2, hf3, hc4, hcl, hfn, hx1, hp, hm, hu, hu5, hQ⟩
  have hk130 : 130 ≤ k := by omega
  have hk134 : k ≤ 134 := by omega
  obtain ⟨hE1, hE2, hE3⟩ := id hE
  have hn4 := hE2.1
  have hp1 : p + 1 ≤ n := hp
  obtain ⟨y, hy⟩ : ∃ y : StR, y = bk2 e 123 125 (srE x (exEx e 3 (p + 1))) := ⟨_, rfl⟩
  have hyv := srV_n (show srV n 0 y from by rw [hy]; exact (bk2_V) _ _ 0 _ (by decide) (by decide) (show srV n 0 (srE x (exEx e 3 (p + 1))) from srV_p (srE_V (exEx_ok hE2 hp) hm) (Nat.zero_le _)))
  have hb7 := hE2.2.2 y.2.1
  refine And.intro rfl ?_
  refine And.intro ⟨(by omega), (zRb rfl)⟩ ⟨fun h3 => ?_, fun h3 => ?_⟩
  · refine And.intro (zDX hD 0 rfl) (zrd (v := p) h2 ?_)
    refine And.intro (zDX hD 0 rfl) (zrd (v := p) h2 ?_)
    refine And.intro (zDX hD 0 rfl) ⟨_, (zWi (by omega)), ?_⟩
    refine And.intro ⟨(by omega), (zRb rfl)⟩ ⟨fun h34 => ?_, fun h34 => ?_⟩
    · refine And.intro ⟨(by omega), (zRb rfl)⟩ ⟨fun h47 => ?_, fun h47 => ?_⟩
      · refine And.intro (zDX hD 0 rfl) ⟨_, sn_S_bk2.up (by decide), ?_⟩
        refine ⟨_, n, e, (srP x (p + 1)), 410, (123 : Int), (125 : Int), rfl, hS, hR, hD, (by first | exact hk | (clear hQ; grind [xu])), (by first | exact (zEt_fr hE (fun c j h => (zxcj (by omega) rfl))) | (clear hQ; grind [xu])), (by first | exact zSr_g (a := p + 1) (b := -1) (d := x.2.2.1) rfl (by first | exact zxe | exact h2 | exact hf3 | exact hc4 | (refine zxs (by omega) ?_; first | exact zxe | exact h2 | exact hf3 | exact hc4 | (refine zxs (by omega) ?_; first | exact zxe | exact h2 | exact hf3 | exact hc4 | (refine zxs (by omega) ?_; first | exact zxe | exact h2 | exact hf3 | exact hc4 | (refine zxs (by omega) ?_; first | exact zxe | exact h2 | exact hf3 | exact hc4))))) (by first | exact zxe | exact h2 | exact hf3 | exact hc4 | (refine zxs (by omega) ?_; first | exact zxe | exact h2 | exact hf3 | exact hc4 | (refine zxs (by omega) ?_; first | exact zxe | exact h2 | exact hf3 | exact hc4 | (refine zxs (by omega) ?_; first | exact zxe | exact h2 | exact hf3 | exact hc4 | (refine zxs (by omega) ?_; first | exact zxe | exact h2 | exact hf3 | exact hc4))))) (by first | exact zxe | exact h2 | exact hf3 | exact hc4 | (refine zxs (by omega) ?_; first | exact zxe | exact h2 | exact hf3 | exact hc4 | (refine zxs (by omega) ?_; first | exact zxe | exact h2 | exact hf3 | exact hc4 | (refine zxs (by omega) ?_; first | exact zxe | exact h2 | exact hf3 | exact hc4 | (refine zxs (by omega) ?_; first | exact zxe | exact h2 | exact hf3 | exact hc4))))) rfl rfl rfl (fun q hq => (zxu (by omega) (hcl q hq))) (fun q hq => (zxu (by omega) (hfn q hq))) | exact zSr_e p52hR (by decide) ((p52bfr k 4 (by omega) (by omega)).trans (zxs (by omega) hc4)) rfl (by omega) (fun q hq => (p52bfr _ _ (by omega) (by omega)).trans (zxu (by omega) (hcl q hq))) (fun q hq => (p52bfr _ _ (by omega) (by omega)).trans (zxu (by omega) (hfn q hq)))), (by omega), (by first | exact (show srV n 0 (srP x (p + 1)) from Or.inl ⟨rfl, Nat.zero_le _, hp, hm⟩) | exact (show srV n 0 (srE x (exEx e 3 (p + 1))) from srV_p (srE_V (exEx_ok hE2 hp) hm) (Nat.zero_le _))), (by clear hQ; grind [xu]), ?_⟩
        intro I61o p61hR p61bfr
        refine And.intro ⟨(by omega), (zRb rfl)⟩ ⟨fun h67 => ?_, (fun h67 => False.elim (by omega))⟩
        refine And.intro (zDX hD 0 rfl) ⟨_, sn_S_bk2.up (by decide), ?_⟩
        refine ⟨_, n, e, (bk2 e 123 125 (srP x (p + 1))), 410, (123 : Int), (125 : Int), rfl, hS, hR, hD, (by first | exact hk | (clear hQ; grind [xu])), (by first | exact (zEt_fr hE (fun c j h => ((p61bfr c j (by omega) (by omega) (by omega) (by omega) (by omega)).trans (zxcj (by omega) rfl)))) | (clear hQ; grind [xu])), (by first | exact p61hR | (rw [hy]; exact p61hR)), (by omega), (by first | exact (bk2_V) _ _ 0 _ (by decide) (by decide) (show srV n 0 (srP x (p + 1)) from Or.inl ⟨rfl, Nat.zero_le _, hp, hm⟩) | (rw [hy]; exact (bk2_V) _ _ 0 _ (by decide) (by decide) (show srV n 0 (srE x (exEx e 3 (p + 1))) from srV_p (srE_V (exEx_ok hE2 hp) hm) (Nat.zero_le _)))), (by clear hQ; grind [xu]), ?_⟩
        intro I91o p91hR p91bfr
        refine hQ _ ?_ (fun c j h0 h1 h2 h3 h4 => ((p91bfr c j h0 h1 h2 h3 h4).trans ((p61bfr c j h0 h1 h2 h3 h4).trans (zxcj h0 rfl))))
        · unfold srS
          first
          | (rw [if_pos (by omega)]; exact p12hR)
          | (rw [if_neg (by omega), if_pos (by omega)]; exact p40hR)
          | (rw [if_neg (by omega), if_neg (by omega), if_pos (by omega)]; exact p91hR)
          | (rw [if_neg (by omega), if_neg (by omega), if_neg (by omega), if_pos (by omega)]; exact p61hR)
          | (rw [if_neg (by omega), if_neg (by omega), if_neg (by omega), if_neg (by omega), if_pos (by omega), ← hy]
             unfold srQ
             first
             | (rw [if_pos ⟨by omega, by omega⟩]; exact p91hR)
             | (rw [if_neg (fun q => by omega), hy]; exact p61hR))
      · refine And.intro (zDX hD 0 rfl) ⟨_, sn_S_exE.up (by decide), ?_⟩
        refine ⟨_, n, e, (exI (p + 1)), 405, rfl, hS, hR, hD, (by first | exact hk | (clear hQ; grind [xu])), (by first | exact (zEt_fr hE (fun c j h => (zxcj (by omega) rfl))) | (clear hQ; grind [xu])), (zEr_mk (a := p + 1) (b := -1) (by first | exact zxe | exact h2 | exact hf3 | exact hc4 | (refine zxs (by omega) ?_; first | exact zxe | exact h2 | exact hf3 | exact hc4 | (refine zxs (by omega) ?_; first | exact zxe | exact h2 | exact hf3 | exact hc4 | (refine zxs (by omega) ?_; first | exact zxe | exact h2 | exact hf3 | exact hc4 | (refine zxs (by omega) ?_; first | exact zxe | exact h2 | exact hf3 | exact hc4))))) (by first | exact zxe | exact h2 | exact hf3 | exact hc4 | (refine zxs (by omega) ?_; first | exact zxe | exact h2 | exact hf3 | exact hc4 | (refine zxs (by omega) ?_; first | exact zxe | exact h2 | exact hf3 | exact hc4 | (refine zxs (by omega) ?_; first | exact zxe | exact h2 | exact hf3 | exact hc4 | (refine zxs (by omega) ?_; first | exact zxe | exact h2 | exact hf3 | exact hc4))))) (Or.inl ⟨rfl, (show _ = ((p + 1 : Nat) : Int) from by omega), rfl⟩)), (by omega), ⟨Or.inr rfl, hp⟩, ?_⟩
        intro I52o p52hR p52bfr
        refine And.intro (zDX hD 0 rfl) ⟨_, sn_S_bk2.up (by decide), ?_⟩
        refine ⟨_, n, e, (srE x (exEx e 3 (p + 1))), 410, (123 : Int), (125 : Int), rfl, hS, hR, hD, (by first | exact hk | (clear hQ; grind [xu])), (by first | exact (zEt_fr hE (fun c j h => ((p52bfr c j (by omega) (by omega)).trans (zxcj (by omega) rfl)))) | (clear hQ; grind [xu])), (by first | exact zSr_g (a := p + 1) (b := -1) (d := x.2.2.1) rfl (by first | exact zxe | exact h2 | exact hf3 | exact hc4 | (refine zxs (by omega) ?_; first | exact zxe | exact h2 | exact hf3 | exact hc4 | (refine zxs (by omega) ?_; first | exact zxe | exact h2 | exact hf3 | exact hc4 | (refine zxs (by omega) ?_; first | exact zxe | exact h2 | exact hf3 | exact hc4 | (refine zxs (by omega) ?_; first | exact zxe | exact h2 | exact hf3 | exact hc4))))) (by first | exact zxe | exact h2 | exact hf3 | exact hc4 | (refine zxs (by omega) ?_; first | exact zxe | exact h2 | exact hf3 | exact hc4 | (refine zxs (by omega) ?_; first | exact zxe | exact h2 | exact hf3 | exact hc4 | (refine zxs (by omega) ?_; first | exact zxe | exact h2 | exact hf3 | exact hc4 | (refine zxs (by omega) ?_; first | exact zxe | exact h2 | exact hf3 | exact hc4))))) (by first | exact zxe | exact h2 | exact hf3 | exact hc4 | (refine zxs (by omega) ?_; first | exact zxe | exact h2 | exact hf3 | exact hc4 | (refine zxs (by omega) ?_; first | exact zxe | exact h2 | exact hf3 | exact hc4 | (refine zxs (by omega) ?_; first | exact zxe | exact h2 | exact hf3 | exact hc4 | (refine zxs (by omega) ?_; first | exact zxe | exact h2 | exact hf3 | exact hc4))))) rfl rfl rfl (fun q hq => (zxu (by omega) (hcl q hq))) (fun q hq => (zxu (by omega) (hfn q hq))) | exact zSr_e p52hR (by decide) ((p52bfr k 4 (by omega) (by omega)).trans (zxs (by omega) hc4)) rfl (by omega) (fun q hq => (p52bfr _ _ (by omega) (by omega)).trans (zxu (by omega) (hcl q hq))) (fun q hq => (p52bfr _ _ (by omega) (by omega)).trans (zxu (by omega) (hfn q hq)))), (by omega), (by first | exact (show srV n 0 (srP x (p + 1)) from Or.inl ⟨rfl, Nat.zero_le _, hp, hm⟩) | exact (show srV n 0 (srE x (exEx e 3 (p + 1))) from srV_p (srE_V (exEx_ok hE2 hp) hm) (Nat.zero_le _))), (by clear hQ; grind [xu]), ?_⟩
        intro I61o p61hR p61bfr
        refine And.intro ⟨(by omega), (zRb rfl)⟩ ⟨(fun h67 => False.elim (by omega)), fun h67 => ?_⟩
        refine And.intro ⟨(by omega), (zRb rfl)⟩ ⟨fun h73 => ?_, fun h73 => ?_⟩
        · refine hQ _ ?_ (fun c j h0 h1 h2 h3 h4 => ((p61bfr c j h0 h1 h2 h3 h4).trans ((p52bfr c j h0 h1).trans (zxcj h0 rfl))))
          · unfold srS
            first
            | (rw [if_pos (by omega)]; exact p12hR)
            | (rw [if_neg (by omega), if_pos (by omega)]; exact p40hR)
            | (rw [if_neg (by omega), if_neg (by omega), if_pos (by omega)]; exact p91hR)
            | (rw [if_neg (by omega), if_neg (by omega), if_neg (by omega), if_pos (by omega)]; exact p61hR)
            | (rw [if_neg (by omega), if_neg (by omega), if_neg (by omega), if_neg (by omega), if_pos (by omega), ← hy]
               unfold srQ
               first
               | (rw [if_pos ⟨by omega, by omega⟩]; exact p91hR)
               | (rw [if_neg (fun q => by omega), hy]; exact p61hR))
        · have t73 : (y.1 = 1 ∧ I61o k 2 = y.2.1 ∧ I61o k 3 = -1 ∧ I61o k 4 = y.2.2.1) ∨ (y.1 = 0 ∧ I61o k 3 = y.2.1 ∧ 0 ≤ I61o k 2 ∧ I61o k 2 ≤ 410 ∧ 0 ≤ I61o k 4 ∧ I61o k 4 ≤ 200) := (by rw [hy]; exact zSr_n p61hR)
          refine And.intro (zDX hD 0 rfl) (Exists.intro _ (And.intro (zinl_ok (zT8_8 38)) (And.intro rfl ?_)))
          refine And.intro (zDX hD 0 rfl) (fun v1_79 e1_79 r1_79 => ?_)
          refine And.intro ⟨r1_79, (zRb rfl)⟩ ⟨fun h5_79 => ?_, fun h5_79 => ?_⟩
          · refine And.intro (Or.inl rfl) ?_
            refine And.intro (zRb rfl) (zbt rfl ?_)
            refine hQ _ ?_ (fun c j h0 h1 h2 h3 h4 => ((p61bfr c j h0 h1 h2 h3 h4).trans ((p52bfr c j h0 h1).trans (zxcj h0 rfl))))
            · unfold srS
              first
              | (rw [if_pos (by omega)]; exact p12hR)
              | (rw [if_neg (by omega), if_pos (by omega)]; exact p40hR)
              | (rw [if_neg (by omega), if_neg (by omega), if_pos (by omega)]; exact p91hR)
              | (rw [if_neg (by omega), if_neg (by omega), if_neg (by omega), if_pos (by omega)]; exact p61hR)
              | (rw [if_neg (by omega), if_neg (by omega), if_neg (by omega), if_neg (by omega), if_pos (by omega), ← hy]
                 unfold srQ
                 first
                 | (rw [if_pos ⟨by omega, by omega⟩]; exact p91hR)
                 | (rw [if_neg (fun q => by omega), hy]; exact p61hR))
          · refine And.intro (zDX hD 0 rfl) (fun v10_79 e10_79 r10_79 => ?_)
            refine And.intro (zDX hD 0 rfl) ⟨_, sn_S_let.up (by decide), ?_⟩
            refine ⟨_, n, e, (v10_79 : Int), y.2.1, rfl, hS, hR, hD, (by first | exact hk | (clear hQ; grind [xu])), (by first | exact (zEt_fr hE (fun c j h => ((p61bfr c j (by omega) (by omega) (by omega) (by omega) (by omega)).trans ((p52bfr c j (by omega) (by omega)).trans (zxcj (by omega) rfl))))) | (clear hQ; grind [xu])), (by omega), ?_⟩
            intro v13_79o p13_79hv p13_79bhv2
            refine And.intro ⟨(by omega), (zRb rfl)⟩ ⟨fun h17_79 => ?_, fun h17_79 => ?_⟩
            · refine And.intro (Or.inl rfl) ?_
              refine And.intro (zRb rfl) (zbt rfl ?_)
              refine hQ _ ?_ (fun c j h0 h1 h2 h3 h4 => ((p61bfr c j h0 h1 h2 h3 h4).trans ((p52bfr c j h0 h1).trans (zxcj h0 rfl))))
              · unfold srS
                first
                | (rw [if_pos (by omega)]; exact p12hR)
                | (rw [if_neg (by omega), if_pos (by omega)]; exact p40hR)
                | (rw [if_neg (by omega), if_neg (by omega), if_pos (by omega)]; exact p91hR)
                | (rw [if_neg (by omega), if_neg (by omega), if_neg (by omega), if_pos (by omega)]; exact p61hR)
                | (rw [if_neg (by omega), if_neg (by omega), if_neg (by omega), if_neg (by omega), if_pos (by omega), ← hy]
                   unfold srQ
                   first
                   | (rw [if_pos ⟨by omega, by omega⟩]; exact p91hR)
                   | (rw [if_neg (fun q => by omega), hy]; exact p61hR))
            · refine And.intro (Or.inr rfl) ?_
              refine And.intro (zRb rfl) (zbf rfl ?_)
              refine And.intro (zDX hD 0 rfl) ⟨_, sn_S_bk2.up (by decide), ?_⟩
              refine ⟨_, n, e, y, 410, (123 : Int), (125 : Int), rfl, hS, hR, hD, (by first | exact hk | (clear hQ; grind [xu])), (by first | exact (zEt_fr hE (fun c j h => ((p61bfr c j (by omega) (by omega) (by omega) (by omega) (by omega)).trans ((p52bfr c j (by omega) (by omega)).trans (zxcj (by omega) rfl))))) | (clear hQ; grind [xu])), (by first | exact p61hR | (rw [hy]; exact p61hR)), (by omega), (by first | exact (bk2_V) _ _ 0 _ (by decide) (by decide) (show srV n 0 (srP x (p + 1)) from Or.inl ⟨rfl, Nat.zero_le _, hp, hm⟩) | (rw [hy]; exact (bk2_V) _ _ 0 _ (by decide) (by decide) (show srV n 0 (srE x (exEx e 3 (p + 1))) from srV_p (srE_V (exEx_ok hE2 hp) hm) (Nat.zero_le _)))), (by clear hQ; grind [xu]), ?_⟩
              intro I91o p91hR p91bfr
              refine hQ _ ?_ (fun c j h0 h1 h2 h3 h4 => ((p91bfr c j h0 h1 h2 h3 h4).trans ((p61bfr c j h0 h1 h2 h3 h4).trans ((p52bfr c j h0 h1).trans (zxcj h0 rfl)))))
              · unfold srS
                first
                | (rw [if_pos (by omega)]; exact p12hR)
                | (rw [if_neg (by omega), if_pos (by omega)]; exact p40hR)
                | (rw [if_neg (by omega), if_neg (by omega), if_pos (by omega)]; exact p91hR)
                | (rw [if_neg (by omega), if_neg (by omega), if_neg (by omega), if_pos (by omega)]; exact p61hR)
                | (rw [if_neg (by omega), if_neg (by omega), if_neg (by omega), if_neg (by omega), if_pos (by omega), ← hy]
                   unfold srQ
                   first
                   | (rw [if_pos ⟨by omega, by omega⟩]; exact p91hR)
                   | (rw [if_neg (fun q => by omega), hy]; exact p61hR))
    · refine And.intro (zDX hD 0 rfl) ⟨_, sn_S_fn2.up (by decide), ?_⟩
      refine ⟨_, n, e, x, p, rfl, hS, hR, hD, (by first | exact hk | (clear hQ; grind [xu])), (by first | exact (zEt_fr hE (fun c j h => (zxcj (by omega) rfl))) | (clear hQ; grind [xu])), (by first | exact zxe | exact h2 | exact hf3 | exact hc4 | (refine zxs (by omega) ?_; first | exact zxe | exact h2 | exact hf3 | exact hc4 | (refine zxs (by omega) ?_; first | exact zxe | exact h2 | exact hf3 | exact hc4 | (refine zxs (by omega) ?_; first | exact zxe | exact h2 | exact hf3 | exact hc4 | (refine zxs (by omega) ?_; first | exact zxe | exact h2 | exact hf3 | exact hc4))))), (by first | exact zxe | exact h2 | exact hf3 | exact hc4 | (refine zxs (by omega) ?_; first | exact zxe | exact h2 | exact hf3 | exact hc4 | (refine zxs (by omega) ?_; first | exact zxe | exact h2 | exact hf3 | exact hc4 | (refine zxs (by omega) ?_; first | exact zxe | exact h2 | exact hf3 | exact hc4 | (refine zxs (by omega) ?_; first | exact zxe | exact h2 | exact hf3 | exact hc4))))), (by first | exact zxe | exact h2 | exact hf3 | exact hc4 | (refine zxs (by omega) ?_; first | exact zxe | exact h2 | exact hf3 | exact hc4 | (refine zxs (by omega) ?_; first | exact zxe | exact h2 | exact hf3 | exact hc4 | (refine zxs (by omega) ?_; first | exact zxe | exact h2 | exact hf3 | exact hc4 | (refine zxs (by omega) ?_; first | exact zxe | exact h2 | exact hf3 | exact hc4))))), (fun q hq => (zxu (by omega) (hcl q hq))), (fun q hq => (zxu (by omega) (hfn q hq))), (by omega), (by omega), ?_⟩
      intro I40o p40hR p40bfr
      refine hQ _ ?_ (fun c j h0 h1 h2 h3 h4 => ((p40bfr c j h0 h1 h2 h3 h4).trans (zxcj h0 rfl)))
      · unfold srS
        first
        | (rw [if_pos (by omega)]; exact p12hR)
        | (rw [if_neg (by omega), if_pos (by omega)]; exact p40hR)
        | (rw [if_neg (by omega), if_neg (by omega), if_pos (by omega)]; exact p91hR)
        | (rw [if_neg (by omega), if_neg (by omega), if_neg (by omega), if_pos (by omega)]; exact p61hR)
        | (rw [if_neg (by omega), if_neg (by omega), if_neg (by omega), if_neg (by omega), if_pos (by omega), ← hy]
           unfold srQ
           first
           | (rw [if_pos ⟨by omega, by omega⟩]; exact p91hR)
           | (rw [if_neg (fun q => by omega), hy]; exact p61hR))
  · refine And.intro (zDX hD 0 rfl) ⟨_, sn_S_bk2.up (by decide), ?_⟩
    refine ⟨_, n, e, x, 410, (91 : Int), (93 : Int), rfl, hS, hR, hD, (by first | exact hk | (clear hQ; grind [xu])), (by first | exact (zEt_fr hE (fun c j h => rfl)) | (clear hQ; grind [xu])), (zSr_g (a := p) (b := -1) (d := x.2.2.1) hx1.1 h2 hf3 hc4 (by omega) rfl rfl hcl hfn), (by omega), (Or.inl ⟨hx1.1, Nat.zero_le _, by omega, hm⟩), (by clear hQ; grind [xu]), ?_⟩
    intro I12o p12hR p12bfr
    refine hQ _ ?_ (fun c j h0 h1 h2 h3 h4 => ((p12bfr c j h0 h1 h2 h3 h4).trans rfl))
    · unfold srS
      first
      | (rw [if_pos (by omega)]; exact p12hR)
      | (rw [if_neg (by omega), if_pos (by omega)]; exact p40hR)
      | (rw [if_neg (by omega), if_neg (by omega), if_pos (by omega)]; exact p91hR)
      | (rw [if_neg (by omega), if_neg (by omega), if_neg (by omega), if_pos (by omega)]; exact p61hR)
      | (rw [if_neg (by omega), if_neg (by omega), if_neg (by omega), if_neg (by omega), if_pos (by omega), ← hy]
         unfold srQ
         first
         | (rw [if_pos ⟨by omega, by omega⟩]; exact p91hR)
         | (rw [if_neg (fun q => by omega), hy]; exact p61hR)))
