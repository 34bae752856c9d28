/-! zz7 -/
def T_S_fn0 : ZT := fun args I L R S Q => ∃ (k : Nat) (n : Nat) (e : Nat → Int) (x : StR) (p : Nat), args = [zvr k, zvi 0, zvi p] ∧ (zSh S) ∧ (zRs R) ∧ (zDy zT8 zF8 k R S) ∧ (k = 130 ∨ k = 134) ∧ (zEt k n e I) ∧ (I k 2 = p + 1) ∧ (I k 3 = -1) ∧ (I k 4 = x.2.2.1) ∧ (∀ q : Nat, q < 400 → I (k + 2) q = x.2.2.2.1 q) ∧ (∀ f : Nat, f < 26 → I (k + 3) f = x.2.2.2.2 f) ∧ (p < n) ∧ (x.2.2.1 ≤ 100) ∧ ∀ (I' : ZI), (zSr k 410 (srFn e (bk0 e) true p x) I') → (∀ c j : Nat, ¬ (c = k ∧ j = 2) → ¬ (c = k ∧ j = 3) → ¬ (c = k ∧ j = 4) → ¬ c = k + 2 → ¬ c = k + 3 → I' c j = I c j) → Q none I' L R S
theorem sn_S_fn0 : ZSnd 112 8 17 T_S_fn0 := ZSnd.of (zT8_17 111) (by
  rintro args I L R S Q hz ⟨k, n, e, x, p, rfl, hS, hR, hD, hk, hE, h2, hf3, hc4, hcl, hfn, hp, hm, hQ⟩
  have hk130 : 130 ≤ k := by omega
  have hk134 : k ≤ 134 := by omega
  obtain ⟨hE1, hE2, hE3⟩ := id hE
  have hn4 := hE2.1
  have hb9 := hE2.2.2 (p + 1)
  refine And.intro rfl ?_
  refine And.intro (zDX hD 0 rfl) (zrd (v := (p + 1)) h2 ?_)
  refine And.intro (zDX hD 0 rfl) ⟨_, sn_S_let.up (by decide), ?_⟩
  refine ⟨_, n, e, ((p + 1) : Int), (p + 1), rfl, hS, hR, hD, (by first | exact hk | (clear hQ; grind [xu])), hE, (by omega), ?_⟩
  intro v5o p5hv p5bhv2
  refine Exists.intro _ (And.intro (zinl_ok (zT8_7 110)) (And.intro rfl ?_))
  refine And.intro ⟨(by omega), (zRb rfl)⟩ ⟨fun h3_10 => ?_, fun h3_10 => ?_⟩
  · refine And.intro (Or.inl rfl) ?_
    refine And.intro (zRb rfl) (zbf rfl ?_)
    refine And.intro (zDX hD 0 rfl) (zrd (v := (p + 1)) h2 ?_)
    refine And.intro (zDX hD 0 rfl) (Exists.intro _ (And.intro (zinl_ok (zT8_2 110)) (And.intro rfl ?_)))
    refine And.intro (zDX hD 0 rfl) (zrd (v := (-1)) hf3 ?_)
    refine And.intro ⟨(zRb rfl), (zRb rfl)⟩ (zbf rfl ?_)
    refine And.intro (zDX hD 0 rfl) ⟨_, (zWi (by omega)), ?_⟩
    refine hQ _ ?_ (fun c j h0 h1 h2 h3 h4 => (zxcj h1 rfl))
    · unfold srFn
      first
      | (rw [if_neg (by omega)]
         exact zSr_f (a := p + 1) (b := p + 1) (d := x.2.2.1) (by first | exact zxe | exact h2 | exact hf3 | exact hc4 | (refine zxs (by omega) ?_; first | exact zxe | exact h2 | exact hf3 | exact hc4 | (refine zxs (by omega) ?_; first | exact zxe | exact h2 | exact hf3 | exact hc4 | (refine zxs (by omega) ?_; first | exact zxe | exact h2 | exact hf3 | exact hc4 | (refine zxs (by omega) ?_; first | exact zxe | exact h2 | exact hf3 | exact hc4))))) (by first | exact zxe | exact h2 | exact hf3 | exact hc4 | (refine zxs (by omega) ?_; first | exact zxe | exact h2 | exact hf3 | exact hc4 | (refine zxs (by omega) ?_; first | exact zxe | exact h2 | exact hf3 | exact hc4 | (refine zxs (by omega) ?_; first | exact zxe | exact h2 | exact hf3 | exact hc4 | (refine zxs (by omega) ?_; first | exact zxe | exact h2 | exact hf3 | exact hc4))))) (by first | exact zxe | exact h2 | exact hf3 | exact hc4 | (refine zxs (by omega) ?_; first | exact zxe | exact h2 | exact hf3 | exact hc4 | (refine zxs (by omega) ?_; first | exact zxe | exact h2 | exact hf3 | exact hc4 | (refine zxs (by omega) ?_; first | exact zxe | exact h2 | exact hf3 | exact hc4 | (refine zxs (by omega) ?_; first | exact zxe | exact h2 | exact hf3 | exact hc4))))) (by omega) (by omega) (by omega))
      | (rw [if_pos (by omega), if_neg (fun q => by have q9 := q.2; omega)]
         exact zSr_f (a := p + 1) (b := p) (d := x.2.2.1) (by first | exact zxe | exact h2 | exact hf3 | exact hc4 | (refine zxs (by omega) ?_; first | exact zxe | exact h2 | exact hf3 | exact hc4 | (refine zxs (by omega) ?_; first | exact zxe | exact h2 | exact hf3 | exact hc4 | (refine zxs (by omega) ?_; first | exact zxe | exact h2 | exact hf3 | exact hc4 | (refine zxs (by omega) ?_; first | exact zxe | exact h2 | exact hf3 | exact hc4))))) (by first | exact zxe | exact h2 | exact hf3 | exact hc4 | (refine zxs (by omega) ?_; first | exact zxe | exact h2 | exact hf3 | exact hc4 | (refine zxs (by omega) ?_; first | exact zxe | exact h2 | exact hf3 | exact hc4 | (refine zxs (by omega) ?_; first | exact zxe | exact h2 | exact hf3 | exact hc4 | (refine zxs (by omega) ?_; first | exact zxe | exact h2 | exact hf3 | exact hc4))))) (by first | exact zxe | exact h2 | exact hf3 | exact hc4 | (refine zxs (by omega) ?_; first | exact zxe | exact h2 | exact hf3 | exact hc4 | (refine zxs (by omega) ?_; first | exact zxe | exact h2 | exact hf3 | exact hc4 | (refine zxs (by omega) ?_; first | exact zxe | exact h2 | exact hf3 | exact hc4 | (refine zxs (by omega) ?_; first | exact zxe | exact h2 | exact hf3 | exact hc4))))) (by omega) (by omega) (by omega))
      | (rw [if_pos (by omega), if_pos ⟨rfl, by omega⟩]
         exact p73hR)
  · refine And.intro ⟨(by omega), (zRb rfl)⟩ ⟨fun h9_10 => ?_, fun h9_10 => ?_⟩
    · refine And.intro (Or.inl rfl) ?_
      refine And.intro (zRb rfl) (zbf rfl ?_)
      refine And.intro (zDX hD 0 rfl) (zrd (v := (p + 1)) h2 ?_)
      refine And.intro (zDX hD 0 rfl) (Exists.intro _ (And.intro (zinl_ok (zT8_2 110)) (And.intro rfl ?_)))
      refine And.intro (zDX hD 0 rfl) (zrd (v := (-1)) hf3 ?_)
      refine And.intro ⟨(zRb rfl), (zRb rfl)⟩ (zbf rfl ?_)
      refine And.intro (zDX hD 0 rfl) ⟨_, (zWi (by omega)), ?_⟩
      refine hQ _ ?_ (fun c j h0 h1 h2 h3 h4 => (zxcj h1 rfl))
      · unfold srFn
        first
        | (rw [if_neg (by omega)]
           exact zSr_f (a := p + 1) (b := p + 1) (d := x.2.2.1) (by first | exact zxe | exact h2 | exact hf3 | exact hc4 | (refine zxs (by omega) ?_; first | exact zxe | exact h2 | exact hf3 | exact hc4 | (refine zxs (by omega) ?_; first | exact zxe | exact h2 | exact hf3 | exact hc4 | (refine zxs (by omega) ?_; first | exact zxe | exact h2 | exact hf3 | exact hc4 | (refine zxs (by omega) ?_; first | exact zxe | exact h2 | exact hf3 | exact hc4))))) (by first | exact zxe | exact h2 | exact hf3 | exact hc4 | (refine zxs (by omega) ?_; first | exact zxe | exact h2 | exact hf3 | exact hc4 | (refine zxs (by omega) ?_; first | exact zxe | exact h2 | exact hf3 | exact hc4 | (refine zxs (by omega) ?_; first | exact zxe | exact h2 | exact hf3 | exact hc4 | (refine zxs (by omega) ?_; first | exact zxe | exact h2 | exact hf3 | exact hc4))))) (by first | exact zxe | exact h2 | exact hf3 | exact hc4 | (refine zxs (by omega) ?_; first | exact zxe | exact h2 | exact hf3 | exact hc4 | (refine zxs (by omega) ?_; first | exact zxe | exact h2 | exact hf3 | exact hc4 | (refine zxs (by omega) ?_; first | exact zxe | exact h2 | exact hf3 | exact hc4 | (refine zxs (by omega) ?_; first | exact zxe | exact h2 | exact hf3 | exact hc4))))) (by omega) (by omega) (by omega))
        | (rw [if_pos (by omega), if_neg (fun q => by have q9 := q.2; omega)]
           exact zSr_f (a := p + 1) (b := p) (d := x.2.2.1) (by first | exact zxe | exact h2 | exact hf3 | exact hc4 | (refine zxs (by omega) ?_; first | exact zxe | exact h2 | exact hf3 | exact hc4 | (refine zxs (by omega) ?_; first | exact zxe | exact h2 | exact hf3 | exact hc4 | (refine zxs (by omega) ?_; first | exact zxe | exact h2 | exact hf3 | exact hc4 | (refine zxs (by omega) ?_; first | exact zxe | exact h2 | exact hf3 | exact hc4))))) (by first | exact zxe | exact h2 | exact hf3 | exact hc4 | (refine zxs (by omega) ?_; first | exact zxe | exact h2 | exact hf3 | exact hc4 | (refine zxs (by omega) ?_; first | exact zxe | exact h2 | exact hf3 | exact hc4 | (refine zxs (by omega) ?_; first | exact zxe | exact h2 | exact hf3 | exact hc4 | (refine zxs (by omega) ?_; first | exact zxe | exact h2 | exact hf3 | exact hc4))))) (by first | exact zxe | exact h2 | exact hf3 | exact hc4 | (refine zxs (by omega) ?_; first | exact zxe | exact h2 | exact hf3 | exact hc4 | (refine zxs (by omega) ?_; first | exact zxe | exact h2 | exact hf3 | exact hc4 | (refine zxs (by omega) ?_; first | exact zxe | exact h2 | exact hf3 | exact hc4 | (refine zxs (by omega) ?_; first | exact zxe | exact h2 | exact hf3 | exact hc4))))) (by omega) (by omega) (by omega))
        | (rw [if_pos (by omega), if_pos ⟨rfl, by omega⟩]
           exact p73hR)
    · refine And.intro (Or.inr rfl) ?_
      refine And.intro (zRb rfl) (zbt rfl ?_)
      refine And.intro (zRb rfl) (zbf rfl ?_)
      refine And.intro (zDX hD 0 rfl) (Exists.intro _ (And.intro (zinl_ok (zT8_4 110)) (And.intro rfl ?_)))
      refine Exists.intro _ (And.intro (zinl_ok (zT8_7 109)) (And.intro rfl ?_))
      refine And.intro ⟨(by omega), (zRb rfl)⟩ ⟨(fun h3_31_1 => False.elim (by omega)), fun h3_31_1 => ?_⟩
      refine And.intro ⟨(by omega), (zRb rfl)⟩ ⟨(fun h9_31_1 => False.elim (by omega)), fun h9_31_1 => ?_⟩
      refine And.intro (Or.inr rfl) ?_
      refine And.intro (zRb rfl) (zbf rfl ?_)
      refine And.intro (zDX hD 0 rfl) (zrdR (v := some (k + 3)) (zDR hD 2 rfl) ?_)
      refine And.intro (zDP hD 3 rfl rfl (by omega) (by omega)) (fun v15_31 e15_31 r15_31 => ?_)
      have f15_31 : v15_31 = x.2.2.2.2 (e (p + 1) - 65).toNat := (e15_31.trans ((congrArg (I (k + 3)) (by omega)).trans (hfn (e (p + 1) - 65).toNat (by omega))))
      refine And.intro ⟨r15_31, (zRb rfl)⟩ ⟨fun h35 => ?_, fun h35 => ?_⟩
      · refine And.intro (zDX hD 0 rfl) (zrd (v := (p + 1)) h2 ?_)
        refine And.intro (zDX hD 0 rfl) ⟨_, (zWi (by omega)), ?_⟩
        refine And.intro (zDX hD 0 rfl) (zrdR (v := some (k + 3)) (zDR hD 2 rfl) ?_)
        refine And.intro (zDX hD 0 rfl) (zrd (v := ((p + 1) + 1)) zxe ?_)
        refine And.intro ⟨(by show 40 ≤ _; omega), (zDP hD 3 rfl rfl (by omega) (by omega))⟩ ⟨_, (zWi (by omega)), ?_⟩
        refine And.intro (zDX hD 0 rfl) ⟨_, sn_S_bk0.up (by decide), ?_⟩
        refine ⟨_, n, e, (1, p + 2, x.2.2.1, x.2.2.2.1, upF x.2.2.2.2 (e (p + 1) - 65).toNat ((p + 2 : Nat) : Int)), 410, (123 : Int), (125 : Int), rfl, hS, hR, hD, (by first | exact hk | (clear hQ; grind [xu])), (by first | exact (zEt_fr hE (fun c j h => (zxcj (by omega) (zxcj (by omega) rfl)))) | (clear hQ; grind [xu])), (by
  refine Or.inl ⟨rfl, ⟨?_, ?_, ?_⟩, fun q hq => ?_, fun q hq => ?_⟩
  · exact (zxu (by omega) zxe).trans (show _ = ((p + 2 : Nat) : Int) from by omega)
  · exact zxu (by omega) (zxs (by omega) hf3)
  · exact zxu (by omega) (zxs (by omega) hc4)
  · exact zxu (by omega) (zxu (by omega) (hcl q hq))
  · show _ = upF x.2.2.2.2 (e (p + 1) - 65).toNat ((p + 2 : Nat) : Int) q
    unfold upF
    by_cases e9 : q = (e (p + 1) - 65).toNat
    · rw [if_pos e9]
      exact (zxe' (by omega)).trans (show _ = ((p + 2 : Nat) : Int) from by omega)
    · rw [if_neg e9]
      exact zxs (by omega) (zxu (by omega) (hfn q hq))), rfl, (Or.inl ⟨rfl, Nat.zero_le _, eTx_lt hE2 (by omega), hm⟩), (by clear hQ; grind [xu]), ?_⟩
        intro I73o p73hR p73bfr
        refine hQ _ ?_ (fun c j h0 h1 h2 h3 h4 => ((p73bfr c j h0 h1 h2 h3 h4).trans (zxu h4 (zxcj h0 rfl))))
        · unfold srFn
          first
          | (rw [if_neg (by omega)]
             exact zSr_f (a := p + 1) (b := p + 1) (d := x.2.2.1) (by first | exact zxe | exact h2 | exact hf3 | exact hc4 | (refine zxs (by omega) ?_; first | exact zxe | exact h2 | exact hf3 | exact hc4 | (refine zxs (by omega) ?_; first | exact zxe | exact h2 | exact hf3 | exact hc4 | (refine zxs (by omega) ?_; first | exact zxe | exact h2 | exact hf3 | exact hc4 | (refine zxs (by omega) ?_; first | exact zxe | exact h2 | exact hf3 | exact hc4))))) (by first | exact zxe | exact h2 | exact hf3 | exact hc4 | (refine zxs (by omega) ?_; first | exact zxe | exact h2 | exact hf3 | exact hc4 | (refine zxs (by omega) ?_; first | exact zxe | exact h2 | exact hf3 | exact hc4 | (refine zxs (by omega) ?_; first | exact zxe | exact h2 | exact hf3 | exact hc4 | (refine zxs (by omega) ?_; first | exact zxe | exact h2 | exact hf3 | exact hc4))))) (by first | exact zxe | exact h2 | exact hf3 | exact hc4 | (refine zxs (by omega) ?_; first | exact zxe | exact h2 | exact hf3 | exact hc4 | (refine zxs (by omega) ?_; first | exact zxe | exact h2 | exact hf3 | exact hc4 | (refine zxs (by omega) ?_; first | exact zxe | exact h2 | exact hf3 | exact hc4 | (refine zxs (by omega) ?_; first | exact zxe | exact h2 | exact hf3 | exact hc4))))) (by omega) (by omega) (by omega))
          | (rw [if_pos (by omega), if_neg (fun q => by have q9 := q.2; omega)]
             exact zSr_f (a := p + 1) (b := p) (d := x.2.2.1) (by first | exact zxe | exact h2 | exact hf3 | exact hc4 | (refine zxs (by omega) ?_; first | exact zxe | exact h2 | exact hf3 | exact hc4 | (refine zxs (by omega) ?_; first | exact zxe | exact h2 | exact hf3 | exact hc4 | (refine zxs (by omega) ?_; first | exact zxe | exact h2 | exact hf3 | exact hc4 | (refine zxs (by omega) ?_; first | exact zxe | exact h2 | exact hf3 | exact hc4))))) (by first | exact zxe | exact h2 | exact hf3 | exact hc4 | (refine zxs (by omega) ?_; first | exact zxe | exact h2 | exact hf3 | exact hc4 | (refine zxs (by omega) ?_; first | exact zxe | exact h2 | exact hf3 | exact hc4 | (refine zxs (by omega) ?_; first | exact zxe | exact h2 | exact hf3 | exact hc4 | (refine zxs (by omega) ?_; first | exact zxe | exact h2 | exact hf3 | exact hc4))))) (by first | exact zxe | exact h2 | exact hf3 | exact hc4 | (refine zxs (by omega) ?_; first | exact zxe | exact h2 | exact hf3 | exact hc4 | (refine zxs (by omega) ?_; first | exact zxe | exact h2 | exact hf3 | exact hc4 | (refine zxs (by omega) ?_; first | exact zxe | exact h2 | exact hf3 | exact hc4 | (refine zxs (by omega) ?_; first | exact zxe | exact h2 | exact hf3 | exact hc4))))) (by omega) (by omega) (by omega))
          | (rw [if_pos (by omega), if_pos ⟨rfl, by omega⟩]
             exact p73hR)
      · refine And.intro (zDX hD 0 rfl) (Exists.intro _ (And.intro (zinl_ok (zT8_2 110)) (And.intro rfl ?_)))
        refine And.intro (zDX hD 0 rfl) (zrd (v := (-1)) hf3 ?_)
        refine And.intro ⟨(zRb rfl), (zRb rfl)⟩ (zbf rfl ?_)
        refine And.intro (zDX hD 0 rfl) ⟨_, (zWi (by omega)), ?_⟩
        refine hQ _ ?_ (fun c j h0 h1 h2 h3 h4 => (zxcj h1 rfl))
        · unfold srFn
          first
          | (rw [if_neg (by omega)]
             exact zSr_f (a := p + 1) (b := p + 1) (d := x.2.2.1) (by first | exact zxe | exact h2 | exact hf3 | exact hc4 | (refine zxs (by omega) ?_; first | exact zxe | exact h2 | exact hf3 | exact hc4 | (refine zxs (by omega) ?_; first | exact zxe | exact h2 | exact hf3 | exact hc4 | (refine zxs (by omega) ?_; first | exact zxe | exact h2 | exact hf3 | exact hc4 | (refine zxs (by omega) ?_; first | exact zxe | exact h2 | exact hf3 | exact hc4))))) (by first | exact zxe | exact h2 | exact hf3 | exact hc4 | (refine zxs (by omega) ?_; first | exact zxe | exact h2 | exact hf3 | exact hc4 | (refine zxs (by omega) ?_; first | exact zxe | exact h2 | exact hf3 | exact hc4 | (refine zxs (by omega) ?_; first | exact zxe | exact h2 | exact hf3 | exact hc4 | (refine zxs (by omega) ?_; first | exact zxe | exact h2 | exact hf3 | exact hc4))))) (by first | exact zxe | exact h2 | exact hf3 | exact hc4 | (refine zxs (by omega) ?_; first | exact zxe | exact h2 | exact hf3 | exact hc4 | (refine zxs (by omega) ?_; first | exact zxe | exact h2 | exact hf3 | exact hc4 | (refine zxs (by omega) ?_; first | exact zxe | exact h2 | exact hf3 | exact hc4 | (refine zxs (by omega) ?_; first | exact zxe | exact h2 | exact hf3 | exact hc4))))) (by omega) (by omega) (by omega))
          | (rw [if_pos (by omega), if_neg (fun q => by have q9 := q.2; omega)]
             exact zSr_f (a := p + 1) (b := p) (d := x.2.2.1) (by first | exact zxe | exact h2 | exact hf3 | exact hc4 | (refine zxs (by omega) ?_; first | exact zxe | exact h2 | exact hf3 | exact hc4 | (refine zxs (by omega) ?_; first | exact zxe | exact h2 | exact hf3 | exact hc4 | (refine zxs (by omega) ?_; first | exact zxe | exact h2 | exact hf3 | exact hc4 | (refine zxs (by omega) ?_; first | exact zxe | exact h2 | exact hf3 | exact hc4))))) (by first | exact zxe | exact h2 | exact hf3 | exact hc4 | (refine zxs (by omega) ?_; first | exact zxe | exact h2 | exact hf3 | exact hc4 | (refine zxs (by omega) ?_; first | exact zxe | exact h2 | exact hf3 | exact hc4 | (refine zxs (by omega) ?_; first | exact zxe | exact h2 | exact hf3 | exact hc4 | (refine zxs (by omega) ?_; first | exact zxe | exact h2 | exact hf3 | exact hc4))))) (by first | exact zxe | exact h2 | exact hf3 | exact hc4 | (refine zxs (by omega) ?_; first | exact zxe | exact h2 | exact hf3 | exact hc4 | (refine zxs (by omega) ?_; first | exact zxe | exact h2 | exact hf3 | exact hc4 | (refine zxs (by omega) ?_; first | exact zxe | exact h2 | exact hf3 | exact hc4 | (refine zxs (by omega) ?_; first | exact zxe | exact h2 | exact hf3 | exact hc4))))) (by omega) (by omega) (by omega))
          | (rw [if_pos (by omega), if_pos ⟨rfl, by omega⟩]
             exact p73hR))
def T_S_bs0 : ZT := fun args I L R S Q => ∃ (k : Nat) (n : Nat) (e : Nat → Int) (x : StR) (p : Nat) (u : Int), args = [zvr k, zvi u, zvi 0] ∧ (zSh S) ∧ (zRs R) ∧ (zDy zT8 zF8 k R S) ∧ (k = 130 ∨ k = 134) ∧ (zEt k n e I) ∧ (I k 2 = p) ∧ (I k 3 = -1) ∧ (I k 4 = x.2.2.1) ∧ (∀ q : Nat, q < 400 → I (k + 2) q = x.2.2.2.1 q) ∧ (∀ f : Nat, f < 26 → I (k + 3) f = x.2.2.2.2 f) ∧ (x.1 = 1 ∧ x.2.1 = p) ∧ (p < n) ∧ (x.2.2.1 ≤ 100) ∧ (u = e p) ∧ (u = 63 ∨ u = 42 ∨ u = 126 ∨ u = 91 ∨ u = 58) ∧ ∀ (I' : ZI), (zSr k 410 (srS e (bk0 e) true p x) I') → (∀ c j : Nat, ¬ (c = k ∧ j = 2) → ¬ (c = k ∧ j = 3) → ¬ (c = k ∧ j = 4) → ¬ c = k + 2 → ¬ c = k + 3 → I' c j = I c j) → Q none I' L R S
theorem sn_S_bs0 : ZSnd 120 8 13 T_S_bs0 := ZSnd.of (zT8_13 119) (by
  rintro args I L R S Q hz ⟨k, n, e, x, p, u, rfl, hS, hR, hD, hk, hE, h2, hf3, hc4, hcl, hfn, hx1, hp, hm, hu, hu5, hQ⟩
  have hk130 : 130 ≤ k := by omega
  have hk134 : k ≤ 134 := by omega
  obtain ⟨hE1, hE2, hE3⟩ := id hE
  have hn4 := hE2.1
  have hp1 : p + 1 ≤ n := hp
  obtain ⟨y, hy⟩ : ∃ y : StR, y = bk0 e 123 125 (srE x (exEx e 3 (p + 1))) := ⟨_, rfl⟩
  have hyv := srV_n (show srV n 0 y from by rw [hy]; exact (bk0_V hE2) _ _ 0 _ (by decide) (by decide) (show srV n 0 (srE x (exEx e 3 (p + 1))) from srV_p (srE_V (exEx_ok hE2 hp) hm) (Nat.zero_le _)))
  have hb7 := hE2.2.2 y.2.1
  refine And.intro rfl ?_
  refine And.intro ⟨(by omega), (zRb rfl)⟩ ⟨fun h3 => ?_, fun h3 => ?_⟩
  · refine And.intro (zDX hD 0 rfl) (zrd (v := p) h2 ?_)
    refine And.intro (zDX hD 0 rfl) (zrd (v := p) h2 ?_)
    refine And.intro (zDX hD 0 rfl) ⟨_, (zWi (by omega)), ?_⟩
    refine And.intro ⟨(by omega), (zRb rfl)⟩ ⟨fun h34 => ?_, fun h34 => ?_⟩
    · refine And.intro ⟨(by omega), (zRb rfl)⟩ ⟨fun h47 => ?_, fun h47 => ?_⟩
      · refine And.intro (zDX hD 0 rfl) ⟨_, sn_S_bk0.up (by decide), ?_⟩
        refine ⟨_, n, e, (srP x (p + 1)), 410, (123 : Int), (125 : Int), rfl, hS, hR, hD, (by first | exact hk | (clear hQ; grind [xu])), (by first | exact (zEt_fr hE (fun c j h => (zxcj (by omega) rfl))) | (clear hQ; grind [xu])), (by first | exact zSr_g (a := p + 1) (b := -1) (d := x.2.2.1) rfl (by first | exact zxe | exact h2 | exact hf3 | exact hc4 | (refine zxs (by omega) ?_; first | exact zxe | exact h2 | exact hf3 | exact hc4 | (refine zxs (by omega) ?_; first | exact zxe | exact h2 | exact hf3 | exact hc4 | (refine zxs (by omega) ?_; first | exact zxe | exact h2 | exact hf3 | exact hc4 | (refine zxs (by omega) ?_; first | exact zxe | exact h2 | exact hf3 | exact hc4))))) (by first | exact zxe | exact h2 | exact hf3 | exact hc4 | (refine zxs (by omega) ?_; first | exact zxe | exact h2 | exact hf3 | exact hc4 | (refine zxs (by omega) ?_; first | exact zxe | exact h2 | exact hf3 | exact hc4 | (refine zxs (by omega) ?_; first | exact zxe | exact h2 | exact hf3 | exact hc4 | (refine zxs (by omega) ?_; first | exact zxe | exact h2 | exact hf3 | exact hc4))))) (by first | exact zxe | exact h2 | exact hf3 | exact hc4 | (refine zxs (by omega) ?_; first | exact zxe | exact h2 | exact hf3 | exact hc4 | (refine zxs (by omega) ?_; first | exact zxe | exact h2 | exact hf3 | exact hc4 | (refine zxs (by omega) ?_; first | exact zxe | exact h2 | exact hf3 | exact hc4 | (refine zxs (by omega) ?_; first | exact zxe | exact h2 | exact hf3 | exact hc4))))) rfl rfl rfl (fun q hq => (zxu (by omega) (hcl q hq))) (fun q hq => (zxu (by omega) (hfn q hq))) | exact zSr_e p52hR (by decide) ((p52bfr k 4 (by omega) (by omega)).trans (zxs (by omega) hc4)) rfl (by omega) (fun q hq => (p52bfr _ _ (by omega) (by omega)).trans (zxu (by omega) (hcl q hq))) (fun q hq => (p52bfr _ _ (by omega) (by omega)).trans (zxu (by omega) (hfn q hq)))), (by omega), (by first | exact (show srV n 0 (srP x (p + 1)) from Or.inl ⟨rfl, Nat.zero_le _, hp, hm⟩) | exact (show srV n 0 (srE x (exEx e 3 (p + 1))) from srV_p (srE_V (exEx_ok hE2 hp) hm) (Nat.zero_le _))), (by clear hQ; grind [xu]), ?_⟩
        intro I61o p61hR p61bfr
        refine And.intro ⟨(by omega), (zRb rfl)⟩ ⟨fun h67 => ?_, (fun h67 => False.elim (by omega))⟩
        refine And.intro (zDX hD 0 rfl) ⟨_, sn_S_bk0.up (by decide), ?_⟩
        refine ⟨_, n, e, (bk0 e 123 125 (srP x (p + 1))), 410, (123 : Int), (125 : Int), rfl, hS, hR, hD, (by first | exact hk | (clear hQ; grind [xu])), (by first | exact (zEt_fr hE (fun c j h => ((p61bfr c j (by omega) (by omega) (by omega) (by omega) (by omega)).trans (zxcj (by omega) rfl)))) | (clear hQ; grind [xu])), (by first | exact p61hR | (rw [hy]; exact p61hR)), (by omega), (by first | exact (bk0_V hE2) _ _ 0 _ (by decide) (by decide) (show srV n 0 (srP x (p + 1)) from Or.inl ⟨rfl, Nat.zero_le _, hp, hm⟩) | (rw [hy]; exact (bk0_V hE2) _ _ 0 _ (by decide) (by decide) (show srV n 0 (srE x (exEx e 3 (p + 1))) from srV_p (srE_V (exEx_ok hE2 hp) hm) (Nat.zero_le _)))), (by clear hQ; grind [xu]), ?_⟩
        intro I91o p91hR p91bfr
        refine hQ _ ?_ (fun c j h0 h1 h2 h3 h4 => ((p91bfr c j h0 h1 h2 h3 h4).trans ((p61bfr c j h0 h1 h2 h3 h4).trans (zxcj h0 rfl))))
        · unfold srS
          first
          | (rw [if_pos (by omega)]; exact p12hR)
          | (rw [if_neg (by omega), if_pos (by omega)]; exact p40hR)
          | (rw [if_neg (by omega), if_neg (by omega), if_pos (by omega)]; exact p91hR)
          | (rw [if_neg (by omega), if_neg (by omega), if_neg (by omega), if_pos (by omega)]; exact p61hR)
          | (rw [if_neg (by omega), if_neg (by omega), if_neg (by omega), if_neg (by omega), if_pos (by omega), ← hy]
             unfold srQ
             first
             | (rw [if_pos ⟨by omega, by omega⟩]; exact p91hR)
             | (rw [if_neg (fun q => by omega), hy]; exact p61hR))
      · refine And.intro (zDX hD 0 rfl) ⟨_, sn_S_exE.up (by decide), ?_⟩
        refine ⟨_, n, e, (exI (p + 1)), 405, rfl, hS, hR, hD, (by first | exact hk | (clear hQ; grind [xu])), (by first | exact (zEt_fr hE (fun c j h => (zxcj (by omega) rfl))) | (clear hQ; grind [xu])), (zEr_mk (a := p + 1) (b := -1) (by first | exact zxe | exact h2 | exact hf3 | exact hc4 | (refine zxs (by omega) ?_; first | exact zxe | exact h2 | exact hf3 | exact hc4 | (refine zxs (by omega) ?_; first | exact zxe | exact h2 | exact hf3 | exact hc4 | (refine zxs (by omega) ?_; first | exact zxe | exact h2 | exact hf3 | exact hc4 | (refine zxs (by omega) ?_; first | exact zxe | exact h2 | exact hf3 | exact hc4))))) (by first | exact zxe | exact h2 | exact hf3 | exact hc4 | (refine zxs (by omega) ?_; first | exact zxe | exact h2 | exact hf3 | exact hc4 | (refine zxs (by omega) ?_; first | exact zxe | exact h2 | exact hf3 | exact hc4 | (refine zxs (by omega) ?_; first | exact zxe | exact h2 | exact hf3 | exact hc4 | (refine zxs (by omega) ?_; first | exact zxe | exact h2 | exact hf3 | exact hc4))))) (Or.inl ⟨rfl, (show _ = ((p + 1 : Nat) : Int) from by omega), rfl⟩)), (by omega), ⟨Or.inr rfl, hp⟩, ?_⟩
        intro I52o p52hR p52bfr
        refine And.intro (zDX hD 0 rfl) ⟨_, sn_S_bk0.up (by decide), ?_⟩
        refine ⟨_, n, e, (srE x (exEx e 3 (p + 1))), 410, (123 : Int), (125 : Int), rfl, hS, hR, hD, (by first | exact hk | (clear hQ; grind [xu])), (by first | exact (zEt_fr hE (fun c j h => ((p52bfr c j (by omega) (by omega)).trans (zxcj (by omega) rfl)))) | (clear hQ; grind [xu])), (by first | exact zSr_g (a := p + 1) (b := -1) (d := x.2.2.1) rfl (by first | exact zxe | exact h2 | exact hf3 | exact hc4 | (refine zxs (by omega) ?_; first | exact zxe | exact h2 | exact hf3 | exact hc4 | (refine zxs (by omega) ?_; first | exact zxe | exact h2 | exact hf3 | exact hc4 | (refine zxs (by omega) ?_; first | exact zxe | exact h2 | exact hf3 | exact hc4 | (refine zxs (by omega) ?_; first | exact zxe | exact h2 | exact hf3 | exact hc4))))) (by first | exact zxe | exact h2 | exact hf3 | exact hc4 | (refine zxs (by omega) ?_; first | exact zxe | exact h2 | exact hf3 | exact hc4 | (refine zxs (by omega) ?_; first | exact zxe | exact h2 | exact hf3 | exact hc4 | (refine zxs (by omega) ?_; first | exact zxe | exact h2 | exact hf3 | exact hc4 | (refine zxs (by omega) ?_; first | exact zxe | exact h2 | exact hf3 | exact hc4))))) (by first | exact zxe | exact h2 | exact hf3 | exact hc4 | (refine zxs (by omega) ?_; first | exact zxe | exact h2 | exact hf3 | exact hc4 | (refine zxs (by omega) ?_; first | exact zxe | exact h2 | exact hf3 | exact hc4 | (refine zxs (by omega) ?_; first | exact zxe | exact h2 | exact hf3 | exact hc4 | (refine zxs (by omega) ?_; first | exact zxe | exact h2 | exact hf3 | exact hc4))))) rfl rfl rfl (fun q hq => (zxu (by omega) (hcl q hq))) (fun q hq => (zxu (by omega) (hfn q hq))) | exact zSr_e p52hR (by decide) ((p52bfr k 4 (by omega) (by omega)).trans (zxs (by omega) hc4)) rfl (by omega) (fun q hq => (p52bfr _ _ (by omega) (by omega)).trans (zxu (by omega) (hcl q hq))) (fun q hq => (p52bfr _ _ (by omega) (by omega)).trans (zxu (by omega) (hfn q hq)))), (by omega), (by first | exact (show srV n 0 (srP x (p + 1)) from Or.inl ⟨rfl, Nat.zero_le _, hp, hm⟩) | exact (show srV n 0 (srE x (exEx e 3 (p + 1))) from srV_p (srE_V (exEx_ok hE2 hp) hm) (Nat.zero_le _))), (by clear hQ; grind [xu]), ?_⟩
        intro I61o p61hR p61bfr
        refine And.intro ⟨(by omega), (zRb rfl)⟩ ⟨(fun h67 => False.elim (by omega)), fun h67 => ?_⟩
        refine And.intro ⟨(by omega), (zRb rfl)⟩ ⟨fun h73 => ?_, fun h73 => ?_⟩
        · refine hQ _ ?_ (fun c j h0 h1 h2 h3 h4 => ((p61bfr c j h0 h1 h2 h3 h4).trans ((p52bfr c j h0 h1).trans (zxcj h0 rfl))))
          · unfold srS
            first
            | (rw [if_pos (by omega)]; exact p12hR)
            | (rw [if_neg (by omega), if_pos (by omega)]; exact p40hR)
            | (rw [if_neg (by omega), if_neg (by omega), if_pos (by omega)]; exact p91hR)
            | (rw [if_neg (by omega), if_neg (by omega), if_neg (by omega), if_pos (by omega)]; exact p61hR)
            | (rw [if_neg (by omega), if_neg (by omega), if_neg (by omega), if_neg (by omega), if_pos (by omega), ← hy]
               unfold srQ
               first
               | (rw [if_pos ⟨by omega, by omega⟩]; exact p91hR)
               | (rw [if_neg (fun q => by omega), hy]; exact p61hR))
        · have t73 : (y.1 = 1 ∧ I61o k 2 = y.2.1 ∧ I61o k 3 = -1 ∧ I61o k 4 = y.2.2.1) ∨ (y.1 = 0 ∧ I61o k 3 = y.2.1 ∧ 0 ≤ I61o k 2 ∧ I61o k 2 ≤ 410 ∧ 0 ≤ I61o k 4 ∧ I61o k 4 ≤ 200) := (by rw [hy]; exact zSr_n p61hR)
          refine And.intro (zDX hD 0 rfl) (Exists.intro _ (And.intro (zinl_ok (zT8_8 118)) (And.intro rfl ?_)))
          refine And.intro (zDX hD 0 rfl) (fun v1_79 e1_79 r1_79 => ?_)
          refine And.intro ⟨r1_79, (zRb rfl)⟩ ⟨fun h5_79 => ?_, fun h5_79 => ?_⟩
          · refine And.intro (Or.inl rfl) ?_
            refine And.intro (zRb rfl) (zbt rfl ?_)
            refine hQ _ ?_ (fun c j h0 h1 h2 h3 h4 => ((p61bfr c j h0 h1 h2 h3 h4).trans ((p52bfr c j h0 h1).trans (zxcj h0 rfl))))
            · unfold srS
              first
              | (rw [if_pos (by omega)]; exact p12hR)
              | (rw [if_neg (by omega), if_pos (by omega)]; exact p40hR)
              | (rw [if_neg (by omega), if_neg (by omega), if_pos (by omega)]; exact p91hR)
              | (rw [if_neg (by omega), if_neg (by omega), if_neg (by omega), if_pos (by omega)]; exact p61hR)
              | (rw [if_neg (by omega), if_neg (by omega), if_neg (by omega), if_neg (by omega), if_pos (by omega), ← hy]
                 unfold srQ
                 first
                 | (rw [if_pos ⟨by omega, by omega⟩]; exact p91hR)
                 | (rw [if_neg (fun q => by omega), hy]; exact p61hR))
          · refine And.intro (zDX hD 0 rfl) (fun v10_79 e10_79 r10_79 => ?_)
            refine And.intro (zDX hD 0 rfl) ⟨_, sn_S_let.up (by decide), ?_⟩
            refine ⟨_, n, e, (v10_79 : Int), y.2.1, rfl, hS, hR, hD, (by first | exact hk | (clear hQ; grind [xu])), (by first | exact (zEt_fr hE (fun c j h => ((p61bfr c j (by omega) (by omega) (by omega) (by omega) (by omega)).trans ((p52bfr c j (by omega) (by omega)).trans (zxcj (by omega) rfl))))) | (clear hQ; grind [xu])), (by omega), ?_⟩
            intro v13_79o p13_79hv p13_79bhv2
            refine And.intro ⟨(by omega), (zRb rfl)⟩ ⟨fun h17_79 => ?_, fun h17_79 => ?_⟩
            · refine And.intro (Or.inl rfl) ?_
              refine And.intro (zRb rfl) (zbt rfl ?_)
              refine hQ _ ?_ (fun c j h0 h1 h2 h3 h4 => ((p61bfr c j h0 h1 h2 h3 h4).trans ((p52bfr c j h0 h1).trans (zxcj h0 rfl))))
              · unfold srS
                first
                | (rw [if_pos (by omega)]; exact p12hR)
                | (rw [if_neg (by omega), if_pos (by omega)]; exact p40hR)
                | (rw [if_neg (by omega), if_neg (by omega), if_pos (by omega)]; exact p91hR)
                | (rw [if_neg (by omega), if_neg (by omega), if_neg (by omega), if_pos (by omega)]; exact p61hR)
                | (rw [if_neg (by omega), if_neg (by omega), if_neg (by omega), if_neg (by omega), if_pos (by omega), ← hy]
                   unfold srQ
                   first
                   | (rw [if_pos ⟨by omega, by omega⟩]; exact p91hR)
                   | (rw [if_neg (fun q => by omega), hy]; exact p61hR))
            · refine And.intro (Or.inr rfl) ?_
              refine And.intro (zRb rfl) (zbf rfl ?_)
              refine And.intro (zDX hD 0 rfl) ⟨_, sn_S_bk0.up (by decide), ?_⟩
              refine ⟨_, n, e, y, 410, (123 : Int), (125 : Int), rfl, hS, hR, hD, (by first | exact hk | (clear hQ; grind [xu])), (by first | exact (zEt_fr hE (fun c j h => ((p61bfr c j (by omega) (by omega) (by omega) (by omega) (by omega)).trans ((p52bfr c j (by omega) (by omega)).trans (zxcj (by omega) rfl))))) | (clear hQ; grind [xu])), (by first | exact p61hR | (rw [hy]; exact p61hR)), (by omega), (by first | exact (bk0_V hE2) _ _ 0 _ (by decide) (by decide) (show srV n 0 (srP x (p + 1)) from Or.inl ⟨rfl, Nat.zero_le _, hp, hm⟩) | (rw [hy]; exact (bk0_V hE2) _ _ 0 _ (by decide) (by decide) (show srV n 0 (srE x (exEx e 3 (p + 1))) from srV_p (srE_V (exEx_ok hE2 hp) hm) (Nat.zero_le _)))), (by clear hQ; grind [xu]), ?_⟩
              intro I91o p91hR p91bfr
              refine hQ _ ?_ (fun c j h0 h1 h2 h3 h4 => ((p91bfr c j h0 h1 h2 h3 h4).trans ((p61bfr c j h0 h1 h2 h3 h4).trans ((p52bfr c j h0 h1).trans (zxcj h0 rfl)))))
              · unfold srS
                first
                | (rw [if_pos (by omega)]; exact p12hR)
                | (rw [if_neg (by omega), if_pos (by omega)]; exact p40hR)
                | (rw [if_neg (by omega), if_neg (by omega), if_pos (by omega)]; exact p91hR)
                | (rw [if_neg (by omega), if_neg (by omega), if_neg (by omega), if_pos (by omega)]; exact p61hR)
                | (rw [if_neg (by omega), if_neg (by omega), if_neg (by omega), if_neg (by omega), if_pos (by omega), ← hy]
                   unfold srQ
                   first
                   | (rw [if_pos ⟨by omega, by omega⟩]; exact p91hR)
                   | (rw [if_neg (fun q => by omega), hy]; exact p61hR))
    · refine And.intro (zDX hD 0 rfl) ⟨_, sn_S_fn0.up (by decide), ?_⟩
      refine ⟨_, n, e, x, p, rfl, hS, hR, hD, (by first | exact hk | (clear hQ; grind [xu])), (by first | exact (zEt_fr hE (fun c j h => (zxcj (by omega) rfl))) | (clear hQ; grind [xu])), (by first | exact zxe | exact h2 | exact hf3 | exact hc4 | (refine zxs (by omega) ?_; first | exact zxe | exact h2 | exact hf3 | exact hc4 | (refine zxs (by omega) ?_; first | exact zxe | exact h2 | exact hf3 | exact hc4 | (refine zxs (by omega) ?_; first | exact zxe | exact h2 | exact hf3 | exact hc4 | (refine zxs (by omega) ?_; first | exact zxe | exact h2 | exact hf3 | exact hc4))))), (by first | exact zxe | exact h2 | exact hf3 | exact hc4 | (refine zxs (by omega) ?_; first | exact zxe | exact h2 | exact hf3 | exact hc4 | (refine zxs (by omega) ?_; first | exact zxe | exact h2 | exact hf3 | exact hc4 | (refine zxs (by omega) ?_; first | exact zxe | exact h2 | exact hf3 | exact hc4 | (refine zxs (by omega) ?_; first | exact zxe | exact h2 | exact hf3 | exact hc4))))), (by first | exact zxe | exact h2 | exact hf3 | exact hc4 | (refine zxs (by omega) ?_; first | exact zxe | exact h2 | exact hf3 | exact hc4 | (refine zxs (by omega) ?_; first | exact zxe | exact h2 | exact hf3 | exact hc4 | (refine zxs (by omega) ?_; first | exact zxe | exact h2 | exact hf3 | exact hc4 | (refine zxs (by omega) ?_; first | exact zxe | exact h2 | exact hf3 | exact hc4))))), (fun q hq => (zxu (by omega) (hcl q hq))), (fun q hq => (zxu (by omega) (hfn q hq))), (by omega), (by omega), ?_⟩
      intro I40o p40hR p40bfr
      refine hQ _ ?_ (fun c j h0 h1 h2 h3 h4 => ((p40bfr c j h0 h1 h2 h3 h4).trans (zxcj h0 rfl)))
      · unfold srS
        first
        | (rw [if_pos (by omega)]; exact p12hR)
        | (rw [if_neg (by omega), if_pos (by omega)]; exact p40hR)
        | (rw [if_neg (by omega), if_neg (by omega), if_pos (by omega)]; exact p91hR)
        | (rw [if_neg (by omega), if_neg (by omega), if_neg (by omega), if_pos (by omega)]; exact p61hR)
        | (rw [if_neg (by omega), if_neg (by omega), if_neg (by omega), if_neg (by omega), if_pos (by omega), ← hy]
           unfold srQ
           first
           | (rw [if_pos ⟨by omega, by omega⟩]; exact p91hR)
           | (rw [if_neg (fun q => by omega), hy]; exact p61hR))
  · refine And.intro (zDX hD 0 rfl) ⟨_, sn_S_bk0.up (by decide), ?_⟩
    refine ⟨_, n, e, x, 410, (91 : Int), (93 : Int), rfl, hS, hR, hD, (by first | exact hk | (clear hQ; grind [xu])), (by first | exact (zEt_fr hE (fun c j h => rfl)) | (clear hQ; grind [xu])), (zSr_g (a := p) (b := -1) (d := x.2.2.1) hx1.1 h2 hf3 hc4 (by omega) rfl rfl hcl hfn), (by omega), (Or.inl ⟨hx1.1, Nat.zero_le _, by omega, hm⟩), (by clear hQ; grind [xu]), ?_⟩
    intro I12o p12hR p12bfr
    refine hQ _ ?_ (fun c j h0 h1 h2 h3 h4 => ((p12bfr c j h0 h1 h2 h3 h4).trans rfl))
    · unfold srS
      first
      | (rw [if_pos (by omega)]; exact p12hR)
      | (rw [if_neg (by omega), if_pos (by omega)]; exact p40hR)
      | (rw [if_neg (by omega), if_neg (by omega), if_pos (by omega)]; exact p91hR)
      | (rw [if_neg (by omega), if_neg (by omega), if_neg (by omega), if_pos (by omega)]; exact p61hR)
      | (rw [if_neg (by omega), if_neg (by omega), if_neg (by omega), if_neg (by omega), if_pos (by omega), ← hy]
         unfold srQ
         first
         | (rw [if_pos ⟨by omega, by omega⟩]; exact p91hR)
         | (rw [if_neg (fun q => by omega), hy]; exact p61hR)))
def T_S_stb0 : ZT := fun args I L R S Q => ∃ (k : Nat) (n : Nat) (e : Nat → Int) (x : StR) (p : Nat), args = [zvr k, zvi 0] ∧ (zSh S) ∧ (zRs R) ∧ (zDy zT8 zF8 k R S) ∧ (k = 130 ∨ k = 134) ∧ (zEt k n e I) ∧ (I k 2 = p) ∧ (I k 3 = -1) ∧ (I k 4 = x.2.2.1) ∧ (∀ q : Nat, q < 400 → I (k + 2) q = x.2.2.2.1 q) ∧ (∀ f : Nat, f < 26 → I (k + 3) f = x.2.2.2.2 f) ∧ (x.1 = 1 ∧ x.2.1 = p) ∧ (p < n) ∧ (x.2.2.1 < 100) ∧ (e p = 63 ∨ e p = 42 ∨ e p = 126 ∨ e p = 91 ∨ e p = 58) ∧ ∀ (I' : ZI), (zSr k 410 (srS e (bk0 e) true p (srC x)) I') → (∀ c j : Nat, ¬ (c = k ∧ j = 2) → ¬ (c = k ∧ j = 3) → ¬ (c = k ∧ j = 4) → ¬ c = k + 2 → ¬ c = k + 3 → I' c j = I c j) → Q none I' L R S
theorem sn_S_stb0 : ZSnd 123 8 19 T_S_stb0 := ZSnd.of (zT8_19 122) (by
  rintro args I L R S Q hz ⟨k, n, e, x, p, rfl, hS, hR, hD, hk, hE, h2, hf3, hc4, hcl, hfn, hx1, hp, hm, hu5, hQ⟩
  have hk130 : 130 ≤ k := by omega
  have hk134 : k ≤ 134 := by omega
  obtain ⟨hE1, hE2, hE3⟩ := id hE
  have hn4 := hE2.1
  refine And.intro rfl ?_
  refine And.intro (zDX hD 0 rfl) (zrd (v := p) h2 ?_)
  refine And.intro (zDX hD 0 rfl) ⟨_, sn_S_let.up (by decide), ?_⟩
  refine ⟨_, n, e, (p : Int), p, rfl, hS, hR, hD, (by first | exact hk | (clear hQ; grind [xu])), hE, (by omega), ?_⟩
  intro v5o p5hv p5bhv2
  refine And.intro (zDX hD 0 rfl) (zrd (v := (x.2.2.1)) hc4 ?_)
  refine And.intro ⟨(by omega), (zRb rfl)⟩ ⟨fun h15 => ?_, (fun h15 => False.elim (by omega))⟩
  refine And.intro (zDX hD 0 rfl) (zrd (v := (x.2.2.1)) hc4 ?_)
  refine And.intro (zDX hD 0 rfl) ⟨_, (zWi (by omega)), ?_⟩
  refine And.intro ⟨(by omega), (zRb rfl)⟩ ⟨fun h39 => ?_, fun h39 => ?_⟩
  · refine And.intro (zDX hD 0 rfl) ⟨_, sn_S_bs0.up (by decide), ?_⟩
    refine ⟨_, n, e, (srC x), p, (v5o : Int), rfl, hS, hR, hD, (by first | exact hk | (clear hQ; grind [xu])), (by first | exact (zEt_fr hE (fun c j h => (zxcj (by omega) rfl))) | (clear hQ; grind [xu])), (by first | exact zxe | exact h2 | exact hf3 | exact hc4 | (refine zxs (by omega) ?_; first | exact zxe | exact h2 | exact hf3 | exact hc4 | (refine zxs (by omega) ?_; first | exact zxe | exact h2 | exact hf3 | exact hc4 | (refine zxs (by omega) ?_; first | exact zxe | exact h2 | exact hf3 | exact hc4 | (refine zxs (by omega) ?_; first | exact zxe | exact h2 | exact hf3 | exact hc4))))), (by first | exact zxe | exact h2 | exact hf3 | exact hc4 | (refine zxs (by omega) ?_; first | exact zxe | exact h2 | exact hf3 | exact hc4 | (refine zxs (by omega) ?_; first | exact zxe | exact h2 | exact hf3 | exact hc4 | (refine zxs (by omega) ?_; first | exact zxe | exact h2 | exact hf3 | exact hc4 | (refine zxs (by omega) ?_; first | exact zxe | exact h2 | exact hf3 | exact hc4))))), (zxe.trans (show _ = ((x.2.2.1 + 1 : Nat) : Int) from by omega)), (fun q hq => (zxu (by omega) (hcl q hq))), (fun q hq => (zxu (by omega) (hfn q hq))), hx1, (by omega), (show x.2.2.1 + 1 ≤ 100 by omega), (by omega), (by clear hQ; grind [xu]), ?_⟩
    intro I69o p69hR p69bfr
    refine hQ _ p69hR (fun c j h0 h1 h2 h3 h4 => ((p69bfr c j h0 h1 h2 h3 h4).trans (zxcj h2 rfl)))
  · refine And.intro ⟨(by omega), (zRb rfl)⟩ ⟨fun h45 => ?_, fun h45 => ?_⟩
    · refine And.intro (zDX hD 0 rfl) ⟨_, sn_S_bs0.up (by decide), ?_⟩
      refine ⟨_, n, e, (srC x), p, (v5o : Int), rfl, hS, hR, hD, (by first | exact hk | (clear hQ; grind [xu])), (by first | exact (zEt_fr hE (fun c j h => (zxcj (by omega) rfl))) | (clear hQ; grind [xu])), (by first | exact zxe | exact h2 | exact hf3 | exact hc4 | (refine zxs (by omega) ?_; first | exact zxe | exact h2 | exact hf3 | exact hc4 | (refine zxs (by omega) ?_; first | exact zxe | exact h2 | exact hf3 | exact hc4 | (refine zxs (by omega) ?_; first | exact zxe | exact h2 | exact hf3 | exact hc4 | (refine zxs (by omega) ?_; first | exact zxe | exact h2 | exact hf3 | exact hc4))))), (by first | exact zxe | exact h2 | exact hf3 | exact hc4 | (refine zxs (by omega) ?_; first | exact zxe | exact h2 | exact hf3 | exact hc4 | (refine zxs (by omega) ?_; first | exact zxe | exact h2 | exact hf3 | exact hc4 | (refine zxs (by omega) ?_; first | exact zxe | exact h2 | exact hf3 | exact hc4 | (refine zxs (by omega) ?_; first | exact zxe | exact h2 | exact hf3 | exact hc4))))), (zxe.trans (show _ = ((x.2.2.1 + 1 : Nat) : Int) from by omega)), (fun q hq => (zxu (by omega) (hcl q hq))), (fun q hq => (zxu (by omega) (hfn q hq))), hx1, (by omega), (show x.2.2.1 + 1 ≤ 100 by omega), (by omega), (by clear hQ; grind [xu]), ?_⟩
      intro I69o p69hR p69bfr
      refine hQ _ p69hR (fun c j h0 h1 h2 h3 h4 => ((p69bfr c j h0 h1 h2 h3 h4).trans (zxcj h2 rfl)))
    · refine And.intro ⟨(by omega), (zRb rfl)⟩ ⟨fun h51 => ?_, fun h51 => ?_⟩
      · refine And.intro (zDX hD 0 rfl) ⟨_, sn_S_bs0.up (by decide), ?_⟩
        refine ⟨_, n, e, (srC x), p, (v5o : Int), rfl, hS, hR, hD, (by first | exact hk | (clear hQ; grind [xu])), (by first | exact (zEt_fr hE (fun c j h => (zxcj (by omega) rfl))) | (clear hQ; grind [xu])), (by first | exact zxe | exact h2 | exact hf3 | exact hc4 | (refine zxs (by omega) ?_; first | exact zxe | exact h2 | exact hf3 | exact hc4 | (refine zxs (by omega) ?_; first | exact zxe | exact h2 | exact hf3 | exact hc4 | (refine zxs (by omega) ?_; first | exact zxe | exact h2 | exact hf3 | exact hc4 | (refine zxs (by omega) ?_; first | exact zxe | exact h2 | exact hf3 | exact hc4))))), (by first | exact zxe | exact h2 | exact hf3 | exact hc4 | (refine zxs (by omega) ?_; first | exact zxe | exact h2 | exact hf3 | exact hc4 | (refine zxs (by omega) ?_; first | exact zxe | exact h2 | exact hf3 | exact hc4 | (refine zxs (by omega) ?_; first | exact zxe | exact h2 | exact hf3 | exact hc4 | (refine zxs (by omega) ?_; first | exact zxe | exact h2 | exact hf3 | exact hc4))))), (zxe.trans (show _ = ((x.2.2.1 + 1 : Nat) : Int) from by omega)), (fun q hq => (zxu (by omega) (hcl q hq))), (fun q hq => (zxu (by omega) (hfn q hq))), hx1, (by omega), (show x.2.2.1 + 1 ≤ 100 by omega), (by omega), (by clear hQ; grind [xu]), ?_⟩
        intro I69o p69hR p69bfr
        refine hQ _ p69hR (fun c j h0 h1 h2 h3 h4 => ((p69bfr c j h0 h1 h2 h3 h4).trans (zxcj h2 rfl)))
      · refine And.intro ⟨(by omega), (zRb rfl)⟩ ⟨fun h57 => ?_, fun h57 => ?_⟩
        · refine And.intro (zDX hD 0 rfl) ⟨_, sn_S_bs0.up (by decide), ?_⟩
          refine ⟨_, n, e, (srC x), p, (v5o : Int), rfl, hS, hR, hD, (by first | exact hk | (clear hQ; grind [xu])), (by first | exact (zEt_fr hE (fun c j h => (zxcj (by omega) rfl))) | (clear hQ; grind [xu])), (by first | exact zxe | exact h2 | exact hf3 | exact hc4 | (refine zxs (by omega) ?_; first | exact zxe | exact h2 | exact hf3 | exact hc4 | (refine zxs (by omega) ?_; first | exact zxe | exact h2 | exact hf3 | exact hc4 | (refine zxs (by omega) ?_; first | exact zxe | exact h2 | exact hf3 | exact hc4 | (refine zxs (by omega) ?_; first | exact zxe | exact h2 | exact hf3 | exact hc4))))), (by first | exact zxe | exact h2 | exact hf3 | exact hc4 | (refine zxs (by omega) ?_; first | exact zxe | exact h2 | exact hf3 | exact hc4 | (refine zxs (by omega) ?_; first | exact zxe | exact h2 | exact hf3 | exact hc4 | (refine zxs (by omega) ?_; first | exact zxe | exact h2 | exact hf3 | exact hc4 | (refine zxs (by omega) ?_; first | exact zxe | exact h2 | exact hf3 | exact hc4))))), (zxe.trans (show _ = ((x.2.2.1 + 1 : Nat) : Int) from by omega)), (fun q hq => (zxu (by omega) (hcl q hq))), (fun q hq => (zxu (by omega) (hfn q hq))), hx1, (by omega), (show x.2.2.1 + 1 ≤ 100 by omega), (by omega), (by clear hQ; grind [xu]), ?_⟩
          intro I69o p69hR p69bfr
          refine hQ _ p69hR (fun c j h0 h1 h2 h3 h4 => ((p69bfr c j h0 h1 h2 h3 h4).trans (zxcj h2 rfl)))
        · refine And.intro ⟨(by omega), (zRb rfl)⟩ ⟨fun h63 => ?_, fun h63 => ?_⟩
          · exact False.elim (by omega)
          · refine And.intro (zDX hD 0 rfl) ⟨_, sn_S_bs0.up (by decide), ?_⟩
            refine ⟨_, n, e, (srC x), p, (v5o : Int), rfl, hS, hR, hD, (by first | exact hk | (clear hQ; grind [xu])), (by first | exact (zEt_fr hE (fun c j h => (zxcj (by omega) rfl))) | (clear hQ; grind [xu])), (by first | exact zxe | exact h2 | exact hf3 | exact hc4 | (refine zxs (by omega) ?_; first | exact zxe | exact h2 | exact hf3 | exact hc4 | (refine zxs (by omega) ?_; first | exact zxe | exact h2 | exact hf3 | exact hc4 | (refine zxs (by omega) ?_; first | exact zxe | exact h2 | exact hf3 | exact hc4 | (refine zxs (by omega) ?_; first | exact zxe | exact h2 | exact hf3 | exact hc4))))), (by first | exact zxe | exact h2 | exact hf3 | exact hc4 | (refine zxs (by omega) ?_; first | exact zxe | exact h2 | exact hf3 | exact hc4 | (refine zxs (by omega) ?_; first | exact zxe | exact h2 | exact hf3 | exact hc4 | (refine zxs (by omega) ?_; first | exact zxe | exact h2 | exact hf3 | exact hc4 | (refine zxs (by omega) ?_; first | exact zxe | exact h2 | exact hf3 | exact hc4))))), (zxe.trans (show _ = ((x.2.2.1 + 1 : Nat) : Int) from by omega)), (fun q hq => (zxu (by omega) (hcl q hq))), (fun q hq => (zxu (by omega) (hfn q hq))), hx1, (by omega), (show x.2.2.1 + 1 ≤ 100 by omega), (by omega), (by clear hQ; grind [xu]), ?_⟩
            intro I69o p69hR p69bfr
            refine hQ _ p69hR (fun c j h0 h1 h2 h3 h4 => ((p69bfr c j h0 h1 h2 h3 h4).trans (zxcj h2 rfl))))
def T_S_stA0 : ZT := fun args I L R S Q => ∃ (k : Nat) (n : Nat) (e : Nat → Int) (x : StR), args = [zvr k, zvi 0] ∧ (zSh S) ∧ (zRs R) ∧ (zDy zT8 zF8 k R S) ∧ (k = 130 ∨ k = 134) ∧ (zEt k n e I) ∧ (zSr k 410 x I) ∧ (x.1 = 1) ∧ (srV n 0 x) ∧ ∀ (I' : ZI), (zSr k 410 (srT e (bk0 e) true x) I') → (∀ c j : Nat, ¬ (c = k ∧ j = 2) → ¬ (c = k ∧ j = 3) → ¬ (c = k ∧ j = 4) → ¬ c = k + 2 → ¬ c = k + 3 → I' c j = I c j) → Q none I' L R S
theorem sn_S_stA0 : ZSnd 124 8 19 T_S_stA0 := by
  rintro d hd args I L R S Q hz ⟨k, n, e, x, rfl, hS, hR, hD, hk, hE, hx, hx1, hxn, hQ⟩
  have hv := srV_n hxn
  rcases hx with ⟨-, ⟨q2, q3, q4⟩, q5, q6⟩ | hx
  · by_cases e1 : 100 ≤ x.2.2.1
    · refine sn_S_stF d (Nat.le_trans (by decide) hd) _ I L R S Q hz ⟨k, n, e, x.2.1, x.2.2.1, 0, rfl, hS, hR, hD, hk, hE, hv.1, q2, q3, q4, by omega, by omega, fun I' f3 f2 f4 fr => hQ I' ?_ (fun c j w1 w2 w3 w4 w5 => fr c j w1 w2 w3 w5)⟩
      have z9 : srT e (bk0 e) true x = srF x x.2.1 := if_pos e1
      rw [z9]
      exact Or.inr ⟨rfl, ⟨f3, f2.1, f2.2⟩, by omega, by omega⟩
    · have z9 : srT e (bk0 e) true x = srS e (bk0 e) true x.2.1 (srC x) := if_neg e1
      by_cases e2 : e x.2.1 = 63 ∨ e x.2.1 = 42 ∨ e x.2.1 = 126 ∨ e x.2.1 = 91 ∨ e x.2.1 = 58
      · refine sn_S_stb0 d (Nat.le_trans (by decide) hd) _ I L R S Q hz ⟨k, n, e, x, x.2.1, rfl, hS, hR, hD, hk, hE, q2, q3, q4, q5, q6, ⟨hx1, rfl⟩, eTx_lt hE.2.1 (by omega), by omega, e2, fun I' f1 fr => hQ I' ?_ fr⟩
        rw [z9]
        exact f1
      · refine sn_S_sti d (Nat.le_trans (by decide) hd) _ I L R S Q hz ⟨k, n, e, x.2.1, x.2.2.1, 0, rfl, hS, hR, hD, hk, hE, hv.1, q2, q3, q4, by omega, by omega, fun I' f1 f4 fr => hQ I' ?_ (fun c j w1 w2 w3 w4 w5 => fr c j w1 w2 w3)⟩
        rw [z9, srS_e (by omega)]
        exact zSr_e (x := srC x) f1 (by decide) f4 (show _ = ((x.2.2.1 + 1 : Nat) : Int) from by omega) (show x.2.2.1 + 1 ≤ 200 by omega) (fun q hq => (fr _ _ (by omega) (by omega) (by omega)).trans (q5 q hq)) (fun q hq => (fr _ _ (by omega) (by omega) (by omega)).trans (q6 q hq))
  · exact absurd hx.1 (by omega)

def T_S_ls0 : ZT := fun args I L R S Q => ∃ (k : Nat) (n : Nat) (e : Nat → Int) (x : StR) (w : Int), args = [zvr k, zvi 0, zvi w] ∧ (zSh S) ∧ (zRs R) ∧ (zDy zT8 zF8 k R S) ∧ (k = 130 ∨ k = 134) ∧ (zEt k n e I) ∧ (zSr k 410 x I) ∧ (x.1 = 1) ∧ (srV n 0 x) ∧ (-1 ≤ w ∧ w ≤ 126) ∧ ∀ (I' : ZI), (zSr k 410 (ls0 e w x) I') → (∀ c j : Nat, ¬ (c = k ∧ j = 2) → ¬ (c = k ∧ j = 3) → ¬ (c = k ∧ j = 4) → ¬ c = k + 2 → ¬ c = k + 3 → I' c j = I c j) → Q none I' L R S
theorem sn_S_ls0 : ZSnd 125 8 20 T_S_ls0 := ZSnd.loops (zT8_20 124) (by
  rintro args I L R S Q hz ⟨k, n, e, x, w, rfl, hS, hR, hD, hk, hE, hx, hx1, hxn, hw, hQ⟩
  have hk130 : 130 ≤ k := by omega
  have hk134 : k ≤ 134 := by omega
  obtain ⟨hE1, hE2, hE3⟩ := id hE
  have hn4 := hE2.1
  refine ⟨[2], fun nM tM lsM stM I1 L1 R1 S1 => match tM with
      | 2 => ∃ (m : Nat) (y : StR), nM = ((402 - m), 0, 0) ∧ lsM = [some (zvr (k)), some (zvi (0)), some (zvi (w)), some (zvi (m))] ∧ stM = [] ∧ L1 = L ∧ R1 = R ∧ S1 = S ∧ (m ≤ 401) ∧ (zSr k 410 y I1) ∧ (srV n 0 y) ∧ (srL e (srT e (bk0 e) true) w (401 - m) y = ls0 e w x) ∧ (∀ c j : Nat, ¬ (c = k ∧ j = 2) → ¬ (c = k ∧ j = 3) → ¬ (c = k ∧ j = 4) → ¬ c = k + 2 → ¬ c = k + 3 → I1 c j = I c j)
      | _ => False, rfl, ?_, ⟨?_, True.intro⟩⟩
  · refine ⟨((402 - (0 : Nat)), 0, 0), [some (zvr (k)), some (zvi (0)), some (zvi (w)), some (zvi ((0 : Nat)))], ⟨rfl, rfl, rfl, rfl, rfl⟩, 0, x, rfl, rfl, rfl, rfl, rfl, rfl, (by omega), hx, hxn, rfl, (fun c j h0 h1 h2 h3 h4 => rfl)⟩
  · rintro nM lsM stM I1 L1 R1 S1 hz1 ⟨m, y, rfl, rfl, rfl, rfl, rfl, rfl, hm, hY, hyn, hrest, fr⟩
    have hE_1 : zEt k n e I1 := zEt_fr hE (fun c j h => fr c j (by omega) (by omega) (by omega) (by omega) (by omega))
    have hYa : (y.1 = 1 ∧ I1 k 2 = y.2.1 ∧ I1 k 3 = -1 ∧ I1 k 4 = y.2.2.1) ∨ (y.1 = 0 ∧ I1 k 3 = y.2.1 ∧ 0 ≤ I1 k 2 ∧ I1 k 2 ≤ 410 ∧ 0 ≤ I1 k 4 ∧ I1 k 4 ≤ 200) := zSr_n hY
    have hyv := srV_n hyn
    have hE11 : I1 k 1 = n := hE_1.1
    have hb8 := hE2.2.2 y.2.1
    refine And.intro ⟨(by omega), (zRb rfl)⟩ ⟨fun h6 => ?_, fun h6 => ?_⟩
    · refine hQ _ ?_ (fun c j h0 h1 h2 h3 h4 => ((fr c j h0 h1 h2 h3 h4).trans rfl))
      · have z2 : y = ls0 e w x := by
          first
          | (rw [srL_0 (fun q => by omega)] at hrest
             exact hrest)
          | (have z1 : 401 - m = 0 := (by omega)
             rw [z1] at hrest
             exact hrest)
        rw [← z2]
        exact hY
    · refine And.intro (zDX hD 0 rfl) (fun v10 e10 r10 => ?_)
      refine And.intro ⟨r10, (zRb rfl)⟩ ⟨fun h14 => ?_, fun h14 => ?_⟩
      · refine hQ _ ?_ (fun c j h0 h1 h2 h3 h4 => ((fr c j h0 h1 h2 h3 h4).trans rfl))
        · have z2 : y = ls0 e w x := by
            first
            | (rw [srL_0 (fun q => by omega)] at hrest
               exact hrest)
            | (have z1 : 401 - m = 0 := (by omega)
               rw [z1] at hrest
               exact hrest)
          rw [← z2]
          exact hY
      · refine And.intro (zDX hD 0 rfl) (fun v19 e19 r19 => ?_)
        refine And.intro (zDX hD 0 rfl) ⟨_, sn_S_let.up (by decide), ?_⟩
        refine ⟨_, n, e, (v19 : Int), y.2.1, rfl, hS, hR, hD, (by first | exact hk | (clear hQ; grind [xu])), hE_1, (by omega), ?_⟩
        intro v22o p22hv p22bhv2
        refine And.intro ⟨(by omega), (by omega)⟩ ⟨fun h26 => ?_, fun h26 => ?_⟩
        · refine hQ _ ?_ (fun c j h0 h1 h2 h3 h4 => ((fr c j h0 h1 h2 h3 h4).trans rfl))
          · have z2 : y = ls0 e w x := by
              first
              | (rw [srL_0 (fun q => by omega)] at hrest
                 exact hrest)
              | (have z1 : 401 - m = 0 := (by omega)
                 rw [z1] at hrest
                 exact hrest)
            rw [← z2]
            exact hY
        · refine And.intro (zDX hD 0 rfl) (fun v31 e31 r31 => ?_)
          refine And.intro (zDX hD 0 rfl) ⟨_, sn_S_let.up (by decide), ?_⟩
          refine ⟨_, n, e, (v31 : Int), y.2.1, rfl, hS, hR, hD, (by first | exact hk | (clear hQ; grind [xu])), hE_1, (by omega), ?_⟩
          intro v34o p34hv p34bhv2
          refine And.intro ⟨(by omega), (zRb rfl)⟩ ⟨fun h39 => ?_, fun h39 => ?_⟩
          · refine And.intro (zDX hD 0 rfl) ⟨_, sn_S_stA0.up (by decide), ?_⟩
            refine ⟨_, n, e, y, rfl, hS, hR, hD, (by first | exact hk | (clear hQ; grind [xu])), hE_1, hY, (by omega), hyn, ?_⟩
            intro I57o p57hR p57bfr
            refine ⟨((402 - (m + 1)), 0, 0), zlt6 (by omega), [some (zvr (k)), some (zvi (0)), some (zvi (w)), some (zvi ((m + 1)))], ⟨rfl, rfl, rfl, rfl, rfl⟩, (m + 1), ((srT e (bk0 e) true) y), rfl, rfl, rfl, rfl, rfl, rfl, (by omega), ?_, ?_, ?_, (fun c j h0 h1 h2 h3 h4 => ((p57bfr c j h0 h1 h2 h3 h4).trans ((fr c j h0 h1 h2 h3 h4).trans rfl)))⟩
            · first
              | exact p57hR
              | (rcases hY with ⟨q1, ⟨q2, q3, q4⟩, q5, q6⟩ | q1
                 · refine Or.inl ⟨rfl, ⟨zxe.trans (show _ = ((y.2.1 + 1 : Nat) : Int) from by omega), zxs (by omega) q3, zxs (by omega) q4⟩, fun q hq => zxu (by omega) (q5 q hq), fun q hq => zxu (by omega) (q6 q hq)⟩
                 · exfalso; omega)
            · first
              | exact srT_V hE2 (bk0_V hE2) (by omega) hyn
              | (rcases hyn with q1 | q1
                 · exact Or.inl ⟨rfl, Nat.zero_le _, eTx_lt hE2 (by omega), q1.2.2.2⟩
                 · exfalso; omega)
            · have z1 : 401 - m = (401 - (m + 1)) + 1 := (by omega)
              rw [z1] at hrest
              first
              | (rw [srL_a ⟨by omega, by omega⟩ (by omega)] at hrest; exact hrest)
              | (rw [srL_b ⟨by omega, by omega⟩ (by omega)] at hrest; exact hrest)
          · have t39 : y.1 = 1 ∧ e y.2.1 = 10 := (by omega)
            refine And.intro (zDX hD 0 rfl) (fun v44 e44 r44 => ?_)
            refine And.intro (zDX hD 0 rfl) ⟨_, (zWi (by omega)), ?_⟩
            refine ⟨((402 - (m + 1)), 0, 0), zlt6 (by omega), [some (zvr (k)), some (zvi (0)), some (zvi (w)), some (zvi ((m + 1)))], ⟨rfl, rfl, rfl, rfl, rfl⟩, (m + 1), (srP y (y.2.1 + 1)), rfl, rfl, rfl, rfl, rfl, rfl, (by omega), ?_, ?_, ?_, (fun c j h0 h1 h2 h3 h4 => (zxcj h0 ((fr c j h0 h1 h2 h3 h4).trans rfl)))⟩
            · first
              | exact p57hR
              | (rcases hY with ⟨q1, ⟨q2, q3, q4⟩, q5, q6⟩ | q1
                 · refine Or.inl ⟨rfl, ⟨zxe.trans (show _ = ((y.2.1 + 1 : Nat) : Int) from by omega), zxs (by omega) q3, zxs (by omega) q4⟩, fun q hq => zxu (by omega) (q5 q hq), fun q hq => zxu (by omega) (q6 q hq)⟩
                 · exfalso; omega)
            · first
              | exact srT_V hE2 (bk0_V hE2) (by omega) hyn
              | (rcases hyn with q1 | q1
                 · exact Or.inl ⟨rfl, Nat.zero_le _, eTx_lt hE2 (by omega), q1.2.2.2⟩
                 · exfalso; omega)
            · have z1 : 401 - m = (401 - (m + 1)) + 1 := (by omega)
              rw [z1] at hrest
              first
              | (rw [srL_a ⟨by omega, by omega⟩ (by omega)] at hrest; exact hrest)
              | (rw [srL_b ⟨by omega, by omega⟩ (by omega)] at hrest; exact hrest))
