/-! zr -/
def T_S_let : ZT := fun args I L R S Q => ∃ (k : Nat) (n : Nat) (e : Nat → Int) (a : Int) (p : Nat), args = [zvr k, zvi a] ∧ (zSh S) ∧ (zRs R) ∧ (zDy zT8 zF8 k R S) ∧ (k = 130 ∨ k = 134) ∧ (zEt k n e I) ∧ (a = p ∧ p ≤ 100000) ∧ ∀ (v : Int), (v = e p) → (-1 ≤ v ∧ v ≤ 126) → Q (some (zvi (v))) I L R S
theorem sn_S_let : ZSnd 1 8 10 T_S_let := ZSnd.of (zT8_10 0) (by
  rintro args I L R S Q hz ⟨k, n, e, a, p, rfl, hS, hR, hD, hk, hE, ha, hQ⟩
  have hk130 : 130 ≤ k := by omega
  have hk134 : k ≤ 134 := by omega
  obtain ⟨hE1, hE2, hE3⟩ := id hE
  have hn4 := hE2.1
  have hb9 := hE2.2.2 p
  refine And.intro rfl ?_
  refine And.intro (by omega) ⟨(fun h1 => False.elim (by omega)), fun h1 => ?_⟩
  refine And.intro (zDX hD 0 rfl) (zrd (v := n) hE1 ?_)
  refine And.intro ⟨(by omega), (by omega)⟩ ⟨fun h9 => ?_, fun h9 => ?_⟩
  · refine hQ _ (by first | omega | (have z9 := hE2.2.1 p (by omega); omega)) (by omega)
  · refine And.intro (zDX hD 0 rfl) (zrdR (v := some (k + 1)) (zDR hD 0 rfl) ?_)
    refine And.intro (zDP hD 1 rfl rfl (by omega) (by omega)) (fun v17 e17 r17 => ?_)
    have f17 : v17 = e p := (e17.trans ((congrArg (I (k + 1)) (by omega)).trans (hE3 p (by omega))))
    refine hQ _ (by first | omega | (have z9 := hE2.2.1 p (by omega); omega)) (by omega))
def T_S_at0 : ZT := fun args I L R S Q => ∃ (k : Nat) (n : Nat) (e : Nat → Int) (p : Nat), args = [zvr k, zvi 3] ∧ (zSh S) ∧ (zRs R) ∧ (zDy zT8 zF8 k R S) ∧ (k = 130 ∨ k = 134) ∧ (zEt k n e I) ∧ (p ≤ n) ∧ (I k 2 = p) ∧ (I k 3 = -1) ∧ ∀ (I' : ZI), (zEr k 402 (exAt e 0 p) I') → (∀ c j : Nat, ¬ (c = k ∧ j = 2) → ¬ (c = k ∧ j = 3) → I' c j = I c j) → Q none I' L R S
theorem sn_S_at0 : ZSnd 5 8 11 T_S_at0 := ZSnd.loops (zT8_11 4) (by
  rintro args I L R S Q hz ⟨k, n, e, p, rfl, hS, hR, hD, hk, hE, hp, h2, h3, hQ⟩
  have hk130 : 130 ≤ k := by omega
  have hk134 : k ≤ 134 := by omega
  obtain ⟨hE1, hE2, hE3⟩ := id hE
  have hn4 := hE2.1
  have hb9 := hE2.2.2 p
  refine ⟨[30], fun nM tM lsM stM I1 L1 R1 S1 => match tM with
      | 30 => ∃ (j : Nat), nM = ((5 - j), 0, 0) ∧ lsM = [some (zvr (k)), none, none, some (zvi (j))] ∧ stM = [] ∧ L1 = L ∧ R1 = R ∧ S1 = S ∧ (j ≤ 4) ∧ (p + j ≤ n) ∧ (48 ≤ e p ∧ e p ≤ 57) ∧ (j ≤ dgN e 4 p) ∧ (I1 k 2 = p + j) ∧ (I1 k 3 = -1) ∧ (∀ c j : Nat, ¬ (c = k ∧ j = 2) → ¬ (c = k ∧ j = 3) → I1 c j = I c j)
      | _ => False, rfl, ?_, ⟨?_, True.intro⟩⟩
  · refine And.intro (zDX hD 0 rfl) (zrd (v := (-1)) h3 ?_)
    refine And.intro ⟨(zRb rfl), (zRb rfl)⟩ (zbf rfl ?_)
    refine And.intro (zDX hD 0 rfl) (zrd (v := p) h2 ?_)
    refine And.intro (zDX hD 0 rfl) ⟨_, sn_S_let.up (by decide), ?_⟩
    refine ⟨_, n, e, (p : Int), p, rfl, hS, hR, hD, (by first | exact hk | (clear hQ; grind [xu])), hE, (by omega), ?_⟩
    intro v13o p13hv p13bhv2
    refine Exists.intro _ (And.intro (zinl_ok (zT8_6 3)) (And.intro rfl ?_))
    refine And.intro ⟨(by omega), (zRb rfl)⟩ ⟨fun h3_22 => ?_, fun h3_22 => ?_⟩
    · refine And.intro (Or.inl rfl) ?_
      refine And.intro (zRb rfl) (zbt rfl ?_)
      refine Exists.intro _ (And.intro (zinl_ok (zT8_9 3)) (And.intro rfl ?_))
      refine And.intro ⟨(by omega), (zRb rfl)⟩ ⟨fun h3_69 => ?_, (fun h3_69 => False.elim (by omega))⟩
      refine And.intro (Or.inl rfl) ?_
      refine And.intro (zRb rfl) (zbf rfl ?_)
      refine And.intro ⟨(by omega), (zRb rfl)⟩ ⟨fun h78 => ?_, fun h78 => ?_⟩
      · refine And.intro ⟨(zRb rfl), (zRb rfl)⟩ (zbt rfl ?_)
        refine And.intro (zDX hD 0 rfl) (zrd (v := p) h2 ?_)
        refine And.intro (zDX hD 0 rfl) (Exists.intro _ (And.intro (zinl_ok (zT8_2 3)) (And.intro rfl ?_)))
        refine And.intro (zDX hD 0 rfl) (zrd (v := (-1)) h3 ?_)
        refine And.intro ⟨(zRb rfl), (zRb rfl)⟩ (zbf rfl ?_)
        refine And.intro (zDX hD 0 rfl) ⟨_, (zWi (by omega)), ?_⟩
        refine hQ _ ?_ (fun c j h0 h1 => (zxcj h1 rfl))
        · first
          | (have q9 : j = dgN e 4 p := (by
               have z1 := dgN_b hE2 (k := 4) hp
               by_cases z2 : j < dgN e 4 p
               · have z3 := dgN_in z2
                 omega
               · omega)
             rw [exAt_B (by omega), exB_d hdg]
             exact zEr_mk (by first | exact zxe | (refine zxs (by omega) ?_; first | exact zxe | (refine zxs (by omega) ?_; first | exact zxe | (refine zxs (by omega) ?_; first | exact zxe | rfl) | rfl) | rfl) | rfl) (by first | exact zxe | (refine zxs (by omega) ?_; first | exact zxe | (refine zxs (by omega) ?_; first | exact zxe | (refine zxs (by omega) ?_; first | exact zxe | rfl) | rfl) | rfl) | rfl) (Or.inl ⟨rfl, (show _ = ((p + dgN e 4 p : Nat) : Int) from by omega), by omega⟩))
          | (rw [exAt_B (by omega), exB_v (by omega)]
             exact zEr_mk (by first | exact zxe | (refine zxs (by omega) ?_; first | exact zxe | (refine zxs (by omega) ?_; first | exact zxe | (refine zxs (by omega) ?_; first | exact zxe | rfl) | rfl) | rfl) | rfl) (by first | exact zxe | (refine zxs (by omega) ?_; first | exact zxe | (refine zxs (by omega) ?_; first | exact zxe | (refine zxs (by omega) ?_; first | exact zxe | rfl) | rfl) | rfl) | rfl) (Or.inl ⟨rfl, (show _ = ((p + 1 : Nat) : Int) from by omega), by omega⟩))
          | (rw [exAt_B (by omega), exB_h (by omega)]
             exact zEr_mk (by first | exact zxe | (refine zxs (by omega) ?_; first | exact zxe | (refine zxs (by omega) ?_; first | exact zxe | (refine zxs (by omega) ?_; first | exact zxe | rfl) | rfl) | rfl) | rfl) (by first | exact zxe | (refine zxs (by omega) ?_; first | exact zxe | (refine zxs (by omega) ?_; first | exact zxe | (refine zxs (by omega) ?_; first | exact zxe | rfl) | rfl) | rfl) | rfl) (Or.inl ⟨rfl, (show _ = ((p + 1 : Nat) : Int) from by omega), by omega⟩))
          | exact p128hR
          | (rw [exAt_0, exB_f (by omega) (by omega) (by omega)]
             exact zEr_mk (by first | exact zxe | (refine zxs (by omega) ?_; first | exact zxe | (refine zxs (by omega) ?_; first | exact zxe | (refine zxs (by omega) ?_; first | exact zxe | rfl) | rfl) | rfl) | rfl) (by first | exact zxe | (refine zxs (by omega) ?_; first | exact zxe | (refine zxs (by omega) ?_; first | exact zxe | (refine zxs (by omega) ?_; first | exact zxe | rfl) | rfl) | rfl) | rfl) (Or.inr ⟨rfl, (show _ = ((p : Nat) : Int) from by omega), by omega, by omega⟩))
      · refine And.intro (zDX hD 0 rfl) (zrd (v := p) h2 ?_)
        refine And.intro (zDX hD 0 rfl) ⟨_, (zWi (by omega)), ?_⟩
        refine hQ _ ?_ (fun c j h0 h1 => (zxcj h0 rfl))
        · first
          | (have q9 : j = dgN e 4 p := (by
               have z1 := dgN_b hE2 (k := 4) hp
               by_cases z2 : j < dgN e 4 p
               · have z3 := dgN_in z2
                 omega
               · omega)
             rw [exAt_B (by omega), exB_d hdg]
             exact zEr_mk (by first | exact zxe | (refine zxs (by omega) ?_; first | exact zxe | (refine zxs (by omega) ?_; first | exact zxe | (refine zxs (by omega) ?_; first | exact zxe | rfl) | rfl) | rfl) | rfl) (by first | exact zxe | (refine zxs (by omega) ?_; first | exact zxe | (refine zxs (by omega) ?_; first | exact zxe | (refine zxs (by omega) ?_; first | exact zxe | rfl) | rfl) | rfl) | rfl) (Or.inl ⟨rfl, (show _ = ((p + dgN e 4 p : Nat) : Int) from by omega), by omega⟩))
          | (rw [exAt_B (by omega), exB_v (by omega)]
             exact zEr_mk (by first | exact zxe | (refine zxs (by omega) ?_; first | exact zxe | (refine zxs (by omega) ?_; first | exact zxe | (refine zxs (by omega) ?_; first | exact zxe | rfl) | rfl) | rfl) | rfl) (by first | exact zxe | (refine zxs (by omega) ?_; first | exact zxe | (refine zxs (by omega) ?_; first | exact zxe | (refine zxs (by omega) ?_; first | exact zxe | rfl) | rfl) | rfl) | rfl) (Or.inl ⟨rfl, (show _ = ((p + 1 : Nat) : Int) from by omega), by omega⟩))
          | (rw [exAt_B (by omega), exB_h (by omega)]
             exact zEr_mk (by first | exact zxe | (refine zxs (by omega) ?_; first | exact zxe | (refine zxs (by omega) ?_; first | exact zxe | (refine zxs (by omega) ?_; first | exact zxe | rfl) | rfl) | rfl) | rfl) (by first | exact zxe | (refine zxs (by omega) ?_; first | exact zxe | (refine zxs (by omega) ?_; first | exact zxe | (refine zxs (by omega) ?_; first | exact zxe | rfl) | rfl) | rfl) | rfl) (Or.inl ⟨rfl, (show _ = ((p + 1 : Nat) : Int) from by omega), by omega⟩))
          | exact p128hR
          | (rw [exAt_0, exB_f (by omega) (by omega) (by omega)]
             exact zEr_mk (by first | exact zxe | (refine zxs (by omega) ?_; first | exact zxe | (refine zxs (by omega) ?_; first | exact zxe | (refine zxs (by omega) ?_; first | exact zxe | rfl) | rfl) | rfl) | rfl) (by first | exact zxe | (refine zxs (by omega) ?_; first | exact zxe | (refine zxs (by omega) ?_; first | exact zxe | (refine zxs (by omega) ?_; first | exact zxe | rfl) | rfl) | rfl) | rfl) (Or.inr ⟨rfl, (show _ = ((p : Nat) : Int) from by omega), by omega, by omega⟩))
    · refine And.intro ⟨(by omega), (zRb rfl)⟩ ⟨fun h9_22 => ?_, fun h9_22 => ?_⟩
      · refine And.intro (Or.inl rfl) ?_
        refine And.intro (zRb rfl) (zbt rfl ?_)
        refine Exists.intro _ (And.intro (zinl_ok (zT8_9 3)) (And.intro rfl ?_))
        refine And.intro ⟨(by omega), (zRb rfl)⟩ ⟨fun h3_69 => ?_, fun h3_69 => ?_⟩
        · refine And.intro (Or.inl rfl) ?_
          refine And.intro (zRb rfl) (zbf rfl ?_)
          refine And.intro ⟨(by omega), (zRb rfl)⟩ ⟨fun h78 => ?_, (fun h78 => False.elim (by omega))⟩
          refine And.intro ⟨(zRb rfl), (zRb rfl)⟩ (zbt rfl ?_)
          refine And.intro (zDX hD 0 rfl) (zrd (v := p) h2 ?_)
          refine And.intro (zDX hD 0 rfl) (Exists.intro _ (And.intro (zinl_ok (zT8_2 3)) (And.intro rfl ?_)))
          refine And.intro (zDX hD 0 rfl) (zrd (v := (-1)) h3 ?_)
          refine And.intro ⟨(zRb rfl), (zRb rfl)⟩ (zbf rfl ?_)
          refine And.intro (zDX hD 0 rfl) ⟨_, (zWi (by omega)), ?_⟩
          refine hQ _ ?_ (fun c j h0 h1 => (zxcj h1 rfl))
          · first
            | (have q9 : j = dgN e 4 p := (by
                 have z1 := dgN_b hE2 (k := 4) hp
                 by_cases z2 : j < dgN e 4 p
                 · have z3 := dgN_in z2
                   omega
                 · omega)
               rw [exAt_B (by omega), exB_d hdg]
               exact zEr_mk (by first | exact zxe | (refine zxs (by omega) ?_; first | exact zxe | (refine zxs (by omega) ?_; first | exact zxe | (refine zxs (by omega) ?_; first | exact zxe | rfl) | rfl) | rfl) | rfl) (by first | exact zxe | (refine zxs (by omega) ?_; first | exact zxe | (refine zxs (by omega) ?_; first | exact zxe | (refine zxs (by omega) ?_; first | exact zxe | rfl) | rfl) | rfl) | rfl) (Or.inl ⟨rfl, (show _ = ((p + dgN e 4 p : Nat) : Int) from by omega), by omega⟩))
            | (rw [exAt_B (by omega), exB_v (by omega)]
               exact zEr_mk (by first | exact zxe | (refine zxs (by omega) ?_; first | exact zxe | (refine zxs (by omega) ?_; first | exact zxe | (refine zxs (by omega) ?_; first | exact zxe | rfl) | rfl) | rfl) | rfl) (by first | exact zxe | (refine zxs (by omega) ?_; first | exact zxe | (refine zxs (by omega) ?_; first | exact zxe | (refine zxs (by omega) ?_; first | exact zxe | rfl) | rfl) | rfl) | rfl) (Or.inl ⟨rfl, (show _ = ((p + 1 : Nat) : Int) from by omega), by omega⟩))
            | (rw [exAt_B (by omega), exB_h (by omega)]
               exact zEr_mk (by first | exact zxe | (refine zxs (by omega) ?_; first | exact zxe | (refine zxs (by omega) ?_; first | exact zxe | (refine zxs (by omega) ?_; first | exact zxe | rfl) | rfl) | rfl) | rfl) (by first | exact zxe | (refine zxs (by omega) ?_; first | exact zxe | (refine zxs (by omega) ?_; first | exact zxe | (refine zxs (by omega) ?_; first | exact zxe | rfl) | rfl) | rfl) | rfl) (Or.inl ⟨rfl, (show _ = ((p + 1 : Nat) : Int) from by omega), by omega⟩))
            | exact p128hR
            | (rw [exAt_0, exB_f (by omega) (by omega) (by omega)]
               exact zEr_mk (by first | exact zxe | (refine zxs (by omega) ?_; first | exact zxe | (refine zxs (by omega) ?_; first | exact zxe | (refine zxs (by omega) ?_; first | exact zxe | rfl) | rfl) | rfl) | rfl) (by first | exact zxe | (refine zxs (by omega) ?_; first | exact zxe | (refine zxs (by omega) ?_; first | exact zxe | (refine zxs (by omega) ?_; first | exact zxe | rfl) | rfl) | rfl) | rfl) (Or.inr ⟨rfl, (show _ = ((p : Nat) : Int) from by omega), by omega, by omega⟩))
        · refine And.intro ⟨(by omega), (zRb rfl)⟩ ⟨fun h9_69 => ?_, fun h9_69 => ?_⟩
          · refine And.intro (Or.inl rfl) ?_
            refine And.intro (zRb rfl) (zbf rfl ?_)
            refine And.intro ⟨(by omega), (zRb rfl)⟩ ⟨fun h78 => ?_, (fun h78 => False.elim (by omega))⟩
            refine And.intro ⟨(zRb rfl), (zRb rfl)⟩ (zbt rfl ?_)
            refine And.intro (zDX hD 0 rfl) (zrd (v := p) h2 ?_)
            refine And.intro (zDX hD 0 rfl) (Exists.intro _ (And.intro (zinl_ok (zT8_2 3)) (And.intro rfl ?_)))
            refine And.intro (zDX hD 0 rfl) (zrd (v := (-1)) h3 ?_)
            refine And.intro ⟨(zRb rfl), (zRb rfl)⟩ (zbf rfl ?_)
            refine And.intro (zDX hD 0 rfl) ⟨_, (zWi (by omega)), ?_⟩
            refine hQ _ ?_ (fun c j h0 h1 => (zxcj h1 rfl))
            · first
              | (have q9 : j = dgN e 4 p := (by
                   have z1 := dgN_b hE2 (k := 4) hp
                   by_cases z2 : j < dgN e 4 p
                   · have z3 := dgN_in z2
                     omega
                   · omega)
                 rw [exAt_B (by omega), exB_d hdg]
                 exact zEr_mk (by first | exact zxe | (refine zxs (by omega) ?_; first | exact zxe | (refine zxs (by omega) ?_; first | exact zxe | (refine zxs (by omega) ?_; first | exact zxe | rfl) | rfl) | rfl) | rfl) (by first | exact zxe | (refine zxs (by omega) ?_; first | exact zxe | (refine zxs (by omega) ?_; first | exact zxe | (refine zxs (by omega) ?_; first | exact zxe | rfl) | rfl) | rfl) | rfl) (Or.inl ⟨rfl, (show _ = ((p + dgN e 4 p : Nat) : Int) from by omega), by omega⟩))
              | (rw [exAt_B (by omega), exB_v (by omega)]
                 exact zEr_mk (by first | exact zxe | (refine zxs (by omega) ?_; first | exact zxe | (refine zxs (by omega) ?_; first | exact zxe | (refine zxs (by omega) ?_; first | exact zxe | rfl) | rfl) | rfl) | rfl) (by first | exact zxe | (refine zxs (by omega) ?_; first | exact zxe | (refine zxs (by omega) ?_; first | exact zxe | (refine zxs (by omega) ?_; first | exact zxe | rfl) | rfl) | rfl) | rfl) (Or.inl ⟨rfl, (show _ = ((p + 1 : Nat) : Int) from by omega), by omega⟩))
              | (rw [exAt_B (by omega), exB_h (by omega)]
                 exact zEr_mk (by first | exact zxe | (refine zxs (by omega) ?_; first | exact zxe | (refine zxs (by omega) ?_; first | exact zxe | (refine zxs (by omega) ?_; first | exact zxe | rfl) | rfl) | rfl) | rfl) (by first | exact zxe | (refine zxs (by omega) ?_; first | exact zxe | (refine zxs (by omega) ?_; first | exact zxe | (refine zxs (by omega) ?_; first | exact zxe | rfl) | rfl) | rfl) | rfl) (Or.inl ⟨rfl, (show _ = ((p + 1 : Nat) : Int) from by omega), by omega⟩))
              | exact p128hR
              | (rw [exAt_0, exB_f (by omega) (by omega) (by omega)]
                 exact zEr_mk (by first | exact zxe | (refine zxs (by omega) ?_; first | exact zxe | (refine zxs (by omega) ?_; first | exact zxe | (refine zxs (by omega) ?_; first | exact zxe | rfl) | rfl) | rfl) | rfl) (by first | exact zxe | (refine zxs (by omega) ?_; first | exact zxe | (refine zxs (by omega) ?_; first | exact zxe | (refine zxs (by omega) ?_; first | exact zxe | rfl) | rfl) | rfl) | rfl) (Or.inr ⟨rfl, (show _ = ((p : Nat) : Int) from by omega), by omega, by omega⟩))
          · refine And.intro (Or.inr rfl) ?_
            refine And.intro (zRb rfl) (zbt rfl ?_)
            refine And.intro (zDX hD 0 rfl) (zrd (v := p) h2 ?_)
            refine And.intro (zDX hD 0 rfl) ⟨_, (zWi (by omega)), ?_⟩
            refine hQ _ ?_ (fun c j h0 h1 => (zxcj h0 rfl))
            · first
              | (have q9 : j = dgN e 4 p := (by
                   have z1 := dgN_b hE2 (k := 4) hp
                   by_cases z2 : j < dgN e 4 p
                   · have z3 := dgN_in z2
                     omega
                   · omega)
                 rw [exAt_B (by omega), exB_d hdg]
                 exact zEr_mk (by first | exact zxe | (refine zxs (by omega) ?_; first | exact zxe | (refine zxs (by omega) ?_; first | exact zxe | (refine zxs (by omega) ?_; first | exact zxe | rfl) | rfl) | rfl) | rfl) (by first | exact zxe | (refine zxs (by omega) ?_; first | exact zxe | (refine zxs (by omega) ?_; first | exact zxe | (refine zxs (by omega) ?_; first | exact zxe | rfl) | rfl) | rfl) | rfl) (Or.inl ⟨rfl, (show _ = ((p + dgN e 4 p : Nat) : Int) from by omega), by omega⟩))
              | (rw [exAt_B (by omega), exB_v (by omega)]
                 exact zEr_mk (by first | exact zxe | (refine zxs (by omega) ?_; first | exact zxe | (refine zxs (by omega) ?_; first | exact zxe | (refine zxs (by omega) ?_; first | exact zxe | rfl) | rfl) | rfl) | rfl) (by first | exact zxe | (refine zxs (by omega) ?_; first | exact zxe | (refine zxs (by omega) ?_; first | exact zxe | (refine zxs (by omega) ?_; first | exact zxe | rfl) | rfl) | rfl) | rfl) (Or.inl ⟨rfl, (show _ = ((p + 1 : Nat) : Int) from by omega), by omega⟩))
              | (rw [exAt_B (by omega), exB_h (by omega)]
                 exact zEr_mk (by first | exact zxe | (refine zxs (by omega) ?_; first | exact zxe | (refine zxs (by omega) ?_; first | exact zxe | (refine zxs (by omega) ?_; first | exact zxe | rfl) | rfl) | rfl) | rfl) (by first | exact zxe | (refine zxs (by omega) ?_; first | exact zxe | (refine zxs (by omega) ?_; first | exact zxe | (refine zxs (by omega) ?_; first | exact zxe | rfl) | rfl) | rfl) | rfl) (Or.inl ⟨rfl, (show _ = ((p + 1 : Nat) : Int) from by omega), by omega⟩))
              | exact p128hR
              | (rw [exAt_0, exB_f (by omega) (by omega) (by omega)]
                 exact zEr_mk (by first | exact zxe | (refine zxs (by omega) ?_; first | exact zxe | (refine zxs (by omega) ?_; first | exact zxe | (refine zxs (by omega) ?_; first | exact zxe | rfl) | rfl) | rfl) | rfl) (by first | exact zxe | (refine zxs (by omega) ?_; first | exact zxe | (refine zxs (by omega) ?_; first | exact zxe | (refine zxs (by omega) ?_; first | exact zxe | rfl) | rfl) | rfl) | rfl) (Or.inr ⟨rfl, (show _ = ((p : Nat) : Int) from by omega), by omega, by omega⟩))
      · refine And.intro (Or.inr rfl) ?_
        refine And.intro (zRb rfl) (zbf rfl ?_)
        refine ⟨((5 - (0 : Nat)), 0, 0), [some (zvr (k)), none, none, some (zvi ((0 : Nat)))], ⟨rfl, rfl, rfl⟩, 0, rfl, rfl, rfl, rfl, rfl, rfl, (by omega), (by omega), (by omega), (by omega), (Eq.trans (b := (p : Int)) h2 (by omega)), (Eq.trans (b := ((-1) : Int)) h3 (by omega)), (fun c j h0 h1 => rfl)⟩
  · rintro nM lsM stM I1 L1 R1 S1 hz1 ⟨j, rfl, rfl, rfl, rfl, rfl, rfl, hj, hjn, hdg, hjd, h21, h31, fr⟩
    have hE_1 : zEt k n e I1 := zEt_fr hE (fun c j h => fr c j (by omega) (by omega))
    refine And.intro ⟨(by omega), (zRb rfl)⟩ ⟨fun h32 => ?_, fun h32 => ?_⟩
    · refine hQ _ ?_ (fun c j h0 h1 => ((fr c j h0 h1).trans rfl))
      · first
        | (have q9 : j = dgN e 4 p := (by
             have z1 := dgN_b hE2 (k := 4) hp
             by_cases z2 : j < dgN e 4 p
             · have z3 := dgN_in z2
               omega
             · omega)
           rw [exAt_B (by omega), exB_d hdg]
           exact zEr_mk (by first | exact zxe | (refine zxs (by omega) ?_; first | exact zxe | (refine zxs (by omega) ?_; first | exact zxe | (refine zxs (by omega) ?_; first | exact zxe | rfl) | rfl) | rfl) | rfl) (by first | exact zxe | (refine zxs (by omega) ?_; first | exact zxe | (refine zxs (by omega) ?_; first | exact zxe | (refine zxs (by omega) ?_; first | exact zxe | rfl) | rfl) | rfl) | rfl) (Or.inl ⟨rfl, (show _ = ((p + dgN e 4 p : Nat) : Int) from by omega), by omega⟩))
        | (rw [exAt_B (by omega), exB_v (by omega)]
           exact zEr_mk (by first | exact zxe | (refine zxs (by omega) ?_; first | exact zxe | (refine zxs (by omega) ?_; first | exact zxe | (refine zxs (by omega) ?_; first | exact zxe | rfl) | rfl) | rfl) | rfl) (by first | exact zxe | (refine zxs (by omega) ?_; first | exact zxe | (refine zxs (by omega) ?_; first | exact zxe | (refine zxs (by omega) ?_; first | exact zxe | rfl) | rfl) | rfl) | rfl) (Or.inl ⟨rfl, (show _ = ((p + 1 : Nat) : Int) from by omega), by omega⟩))
        | (rw [exAt_B (by omega), exB_h (by omega)]
           exact zEr_mk (by first | exact zxe | (refine zxs (by omega) ?_; first | exact zxe | (refine zxs (by omega) ?_; first | exact zxe | (refine zxs (by omega) ?_; first | exact zxe | rfl) | rfl) | rfl) | rfl) (by first | exact zxe | (refine zxs (by omega) ?_; first | exact zxe | (refine zxs (by omega) ?_; first | exact zxe | (refine zxs (by omega) ?_; first | exact zxe | rfl) | rfl) | rfl) | rfl) (Or.inl ⟨rfl, (show _ = ((p + 1 : Nat) : Int) from by omega), by omega⟩))
        | exact p128hR
        | (rw [exAt_0, exB_f (by omega) (by omega) (by omega)]
           exact zEr_mk (by first | exact zxe | (refine zxs (by omega) ?_; first | exact zxe | (refine zxs (by omega) ?_; first | exact zxe | (refine zxs (by omega) ?_; first | exact zxe | rfl) | rfl) | rfl) | rfl) (by first | exact zxe | (refine zxs (by omega) ?_; first | exact zxe | (refine zxs (by omega) ?_; first | exact zxe | (refine zxs (by omega) ?_; first | exact zxe | rfl) | rfl) | rfl) | rfl) (Or.inr ⟨rfl, (show _ = ((p : Nat) : Int) from by omega), by omega, by omega⟩))
    · refine And.intro (zDX hD 0 rfl) (zrd (v := (p + j)) h21 ?_)
      refine And.intro (zDX hD 0 rfl) ⟨_, sn_S_let.up (by decide), ?_⟩
      refine ⟨_, n, e, ((p + j) : Int), (p + j), rfl, hS, hR, hD, (by first | exact hk | (clear hQ; grind [xu])), hE_1, (by omega), ?_⟩
      intro v40o p40hv p40bhv2
      refine Exists.intro _ (And.intro (zinl_ok (zT8_6 3)) (And.intro rfl ?_))
      refine And.intro ⟨(by omega), (zRb rfl)⟩ ⟨fun h3_43 => ?_, fun h3_43 => ?_⟩
      · refine And.intro (Or.inl rfl) ?_
        refine And.intro (zRb rfl) (zbt rfl ?_)
        refine hQ _ ?_ (fun c j h0 h1 => ((fr c j h0 h1).trans rfl))
        · first
          | (have q9 : j = dgN e 4 p := (by
               have z1 := dgN_b hE2 (k := 4) hp
               by_cases z2 : j < dgN e 4 p
               · have z3 := dgN_in z2
                 omega
               · omega)
             rw [exAt_B (by omega), exB_d hdg]
             exact zEr_mk (by first | exact zxe | (refine zxs (by omega) ?_; first | exact zxe | (refine zxs (by omega) ?_; first | exact zxe | (refine zxs (by omega) ?_; first | exact zxe | rfl) | rfl) | rfl) | rfl) (by first | exact zxe | (refine zxs (by omega) ?_; first | exact zxe | (refine zxs (by omega) ?_; first | exact zxe | (refine zxs (by omega) ?_; first | exact zxe | rfl) | rfl) | rfl) | rfl) (Or.inl ⟨rfl, (show _ = ((p + dgN e 4 p : Nat) : Int) from by omega), by omega⟩))
          | (rw [exAt_B (by omega), exB_v (by omega)]
             exact zEr_mk (by first | exact zxe | (refine zxs (by omega) ?_; first | exact zxe | (refine zxs (by omega) ?_; first | exact zxe | (refine zxs (by omega) ?_; first | exact zxe | rfl) | rfl) | rfl) | rfl) (by first | exact zxe | (refine zxs (by omega) ?_; first | exact zxe | (refine zxs (by omega) ?_; first | exact zxe | (refine zxs (by omega) ?_; first | exact zxe | rfl) | rfl) | rfl) | rfl) (Or.inl ⟨rfl, (show _ = ((p + 1 : Nat) : Int) from by omega), by omega⟩))
          | (rw [exAt_B (by omega), exB_h (by omega)]
             exact zEr_mk (by first | exact zxe | (refine zxs (by omega) ?_; first | exact zxe | (refine zxs (by omega) ?_; first | exact zxe | (refine zxs (by omega) ?_; first | exact zxe | rfl) | rfl) | rfl) | rfl) (by first | exact zxe | (refine zxs (by omega) ?_; first | exact zxe | (refine zxs (by omega) ?_; first | exact zxe | (refine zxs (by omega) ?_; first | exact zxe | rfl) | rfl) | rfl) | rfl) (Or.inl ⟨rfl, (show _ = ((p + 1 : Nat) : Int) from by omega), by omega⟩))
          | exact p128hR
          | (rw [exAt_0, exB_f (by omega) (by omega) (by omega)]
             exact zEr_mk (by first | exact zxe | (refine zxs (by omega) ?_; first | exact zxe | (refine zxs (by omega) ?_; first | exact zxe | (refine zxs (by omega) ?_; first | exact zxe | rfl) | rfl) | rfl) | rfl) (by first | exact zxe | (refine zxs (by omega) ?_; first | exact zxe | (refine zxs (by omega) ?_; first | exact zxe | (refine zxs (by omega) ?_; first | exact zxe | rfl) | rfl) | rfl) | rfl) (Or.inr ⟨rfl, (show _ = ((p : Nat) : Int) from by omega), by omega, by omega⟩))
      · refine And.intro ⟨(by omega), (zRb rfl)⟩ ⟨fun h9_43 => ?_, fun h9_43 => ?_⟩
        · refine And.intro (Or.inl rfl) ?_
          refine And.intro (zRb rfl) (zbt rfl ?_)
          refine hQ _ ?_ (fun c j h0 h1 => ((fr c j h0 h1).trans rfl))
          · first
            | (have q9 : j = dgN e 4 p := (by
                 have z1 := dgN_b hE2 (k := 4) hp
                 by_cases z2 : j < dgN e 4 p
                 · have z3 := dgN_in z2
                   omega
                 · omega)
               rw [exAt_B (by omega), exB_d hdg]
               exact zEr_mk (by first | exact zxe | (refine zxs (by omega) ?_; first | exact zxe | (refine zxs (by omega) ?_; first | exact zxe | (refine zxs (by omega) ?_; first | exact zxe | rfl) | rfl) | rfl) | rfl) (by first | exact zxe | (refine zxs (by omega) ?_; first | exact zxe | (refine zxs (by omega) ?_; first | exact zxe | (refine zxs (by omega) ?_; first | exact zxe | rfl) | rfl) | rfl) | rfl) (Or.inl ⟨rfl, (show _ = ((p + dgN e 4 p : Nat) : Int) from by omega), by omega⟩))
            | (rw [exAt_B (by omega), exB_v (by omega)]
               exact zEr_mk (by first | exact zxe | (refine zxs (by omega) ?_; first | exact zxe | (refine zxs (by omega) ?_; first | exact zxe | (refine zxs (by omega) ?_; first | exact zxe | rfl) | rfl) | rfl) | rfl) (by first | exact zxe | (refine zxs (by omega) ?_; first | exact zxe | (refine zxs (by omega) ?_; first | exact zxe | (refine zxs (by omega) ?_; first | exact zxe | rfl) | rfl) | rfl) | rfl) (Or.inl ⟨rfl, (show _ = ((p + 1 : Nat) : Int) from by omega), by omega⟩))
            | (rw [exAt_B (by omega), exB_h (by omega)]
               exact zEr_mk (by first | exact zxe | (refine zxs (by omega) ?_; first | exact zxe | (refine zxs (by omega) ?_; first | exact zxe | (refine zxs (by omega) ?_; first | exact zxe | rfl) | rfl) | rfl) | rfl) (by first | exact zxe | (refine zxs (by omega) ?_; first | exact zxe | (refine zxs (by omega) ?_; first | exact zxe | (refine zxs (by omega) ?_; first | exact zxe | rfl) | rfl) | rfl) | rfl) (Or.inl ⟨rfl, (show _ = ((p + 1 : Nat) : Int) from by omega), by omega⟩))
            | exact p128hR
            | (rw [exAt_0, exB_f (by omega) (by omega) (by omega)]
               exact zEr_mk (by first | exact zxe | (refine zxs (by omega) ?_; first | exact zxe | (refine zxs (by omega) ?_; first | exact zxe | (refine zxs (by omega) ?_; first | exact zxe | rfl) | rfl) | rfl) | rfl) (by first | exact zxe | (refine zxs (by omega) ?_; first | exact zxe | (refine zxs (by omega) ?_; first | exact zxe | (refine zxs (by omega) ?_; first | exact zxe | rfl) | rfl) | rfl) | rfl) (Or.inr ⟨rfl, (show _ = ((p : Nat) : Int) from by omega), by omega, by omega⟩))
        · refine And.intro (Or.inr rfl) ?_
          refine And.intro (zRb rfl) (zbf rfl ?_)
          refine And.intro (zDX hD 0 rfl) (zrd (v := (p + j)) h21 ?_)
          refine And.intro (zDX hD 0 rfl) ⟨_, (zWi (by omega)), ?_⟩
          refine ⟨((5 - (j + 1)), 0, 0), zlt6 (by omega), [some (zvr (k)), none, none, some (zvi ((j + 1)))], ⟨rfl, rfl, rfl⟩, (j + 1), rfl, rfl, rfl, rfl, rfl, rfl, (by omega), (by have z9 := eTx_lt hE2 (p := p + j) (by omega); omega), (by omega), (by by_cases z2 : j < dgN e 4 p; exact z2; (have z4 : dgN e 4 p = j := (by omega); have z3 := dgN_no (c := e) (k := 4) (p := p) (by omega); rw [z4] at z3; omega)), (Eq.trans (b := (((p + j) + 1) : Int)) zxe (by omega)), (Eq.trans (b := ((-1) : Int)) (zxs (by decide) h31) (by omega)), (fun c j h0 h1 => (zxcj h0 ((fr c j h0 h1).trans rfl)))⟩)
