/-! zu3 -/
def T_S_at3 : ZT := fun args I L R S Q => ∃ (k : Nat) (n : Nat) (e : Nat → Int) (p : Nat), args = [zvr k, zvi 0] ∧ (zSh S) ∧ (zRs R) ∧ (zDy zT8 zF8 k R S) ∧ (k = 130 ∨ k = 134) ∧ (zEt k n e I) ∧ (p ≤ n) ∧ (I k 2 = p) ∧ (I k 3 = -1) ∧ ∀ (I' : ZI), (zEr k 405 (exAt e 3 p) I') → (∀ c j : Nat, ¬ (c = k ∧ j = 2) → ¬ (c = k ∧ j = 3) → I' c j = I c j) → Q none I' L R S
theorem sn_S_at3 : ZSnd 23 8 11 T_S_at3 := ZSnd.loops (zT8_11 22) (by
  rintro args I L R S Q hz ⟨k, n, e, p, rfl, hS, hR, hD, hk, hE, hp, h2, h3, hQ⟩
  have hk130 : 130 ≤ k := by omega
  have hk134 : k ≤ 134 := by omega
  obtain ⟨hE1, hE2, hE3⟩ := id hE
  have hn4 := hE2.1
  have hb9 := hE2.2.2 p
  refine ⟨[30], fun nM tM lsM stM I1 L1 R1 S1 => match tM with
      | 30 => ∃ (j : Nat), nM = ((5 - j), 0, 0) ∧ lsM = [some (zvr (k)), none, none, some (zvi (j))] ∧ stM = [] ∧ L1 = L ∧ R1 = R ∧ S1 = S ∧ (j ≤ 4) ∧ (p + j ≤ n) ∧ (48 ≤ e p ∧ e p ≤ 57) ∧ (j ≤ dgN e 4 p) ∧ (I1 k 2 = p + j) ∧ (I1 k 3 = -1) ∧ (∀ c j : Nat, ¬ (c = k ∧ j = 2) → ¬ (c = k ∧ j = 3) → I1 c j = I c j)
      | _ => False, rfl, ?_, ⟨?_, True.intro⟩⟩
  · refine And.intro (zDX hD 0 rfl) (zrd (v := (-1)) h3 ?_)
    refine And.intro ⟨(zRb rfl), (zRb rfl)⟩ (zbf rfl ?_)
    refine And.intro (zDX hD 0 rfl) (zrd (v := p) h2 ?_)
    refine And.intro (zDX hD 0 rfl) ⟨_, sn_S_let.up (by decide), ?_⟩
    refine ⟨_, n, e, (p : Int), p, rfl, hS, hR, hD, (by first | exact hk | (clear hQ; grind [xu])), hE, (by omega), ?_⟩
    intro v13o p13hv p13bhv2
    refine Exists.intro _ (And.intro (zinl_ok (zT8_6 21)) (And.intro rfl ?_))
    refine And.intro ⟨(by omega), (zRb rfl)⟩ ⟨fun h3_22 => ?_, fun h3_22 => ?_⟩
    · refine And.intro (Or.inl rfl) ?_
      refine And.intro (zRb rfl) (zbt rfl ?_)
      refine Exists.intro _ (And.intro (zinl_ok (zT8_9 21)) (And.intro rfl ?_))
      refine And.intro ⟨(by omega), (zRb rfl)⟩ ⟨fun h3_69 => ?_, (fun h3_69 => False.elim (by omega))⟩
      refine And.intro (Or.inl rfl) ?_
      refine And.intro (zRb rfl) (zbf rfl ?_)
      refine And.intro ⟨(by omega), (zRb rfl)⟩ ⟨fun h78 => ?_, fun h78 => ?_⟩
      · refine And.intro ⟨(zRb rfl), (zRb rfl)⟩ (zbf rfl ?_)
        refine And.intro ⟨(by omega), (zRb rfl)⟩ ⟨fun h102 => ?_, fun h102 => ?_⟩
        · refine And.intro (zDX hD 0 rfl) ⟨_, sn_S_da3.up (by decide), ?_⟩
          refine ⟨k, n, e, p, (v13o : Int), rfl, hS, hR, hD, (by first | exact hk | (clear hQ; grind [xu])), (by first | exact (zEt_fr hE (fun c j h => rfl)) | (clear hQ; grind [xu])), (by omega), h2, (Eq.trans (b := ((-1) : Int)) h3 (by omega)), (by omega), (by clear hQ; grind [xu]), ?_⟩
          intro I128o p128hR p128bfr
          refine hQ _ ?_ (fun c j h0 h1 => ((p128bfr c j h0 h1).trans rfl))
          · first
            | (have q9 : j = dgN e 4 p := (by
                 have z1 := dgN_b hE2 (k := 4) hp
                 by_cases z2 : j < dgN e 4 p
                 · have z3 := dgN_in z2
                   omega
                 · omega)
               rw [exAt_B (by omega), exB_d hdg]
               exact zEr_mk (by first | exact zxe | (refine zxs (by omega) ?_; first | exact zxe | (refine zxs (by omega) ?_; first | exact zxe | (refine zxs (by omega) ?_; first | exact zxe | rfl) | rfl) | rfl) | rfl) (by first | exact zxe | (refine zxs (by omega) ?_; first | exact zxe | (refine zxs (by omega) ?_; first | exact zxe | (refine zxs (by omega) ?_; first | exact zxe | rfl) | rfl) | rfl) | rfl) (Or.inl ⟨rfl, (show _ = ((p + dgN e 4 p : Nat) : Int) from by omega), by omega⟩))
            | (rw [exAt_B (by omega), exB_v (by omega)]
               exact zEr_mk (by first | exact zxe | (refine zxs (by omega) ?_; first | exact zxe | (refine zxs (by omega) ?_; first | exact zxe | (refine zxs (by omega) ?_; first | exact zxe | rfl) | rfl) | rfl) | rfl) (by first | exact zxe | (refine zxs (by omega) ?_; first | exact zxe | (refine zxs (by omega) ?_; first | exact zxe | (refine zxs (by omega) ?_; first | exact zxe | rfl) | rfl) | rfl) | rfl) (Or.inl ⟨rfl, (show _ = ((p + 1 : Nat) : Int) from by omega), by omega⟩))
            | (rw [exAt_B (by omega), exB_h (by omega)]
               exact zEr_mk (by first | exact zxe | (refine zxs (by omega) ?_; first | exact zxe | (refine zxs (by omega) ?_; first | exact zxe | (refine zxs (by omega) ?_; first | exact zxe | rfl) | rfl) | rfl) | rfl) (by first | exact zxe | (refine zxs (by omega) ?_; first | exact zxe | (refine zxs (by omega) ?_; first | exact zxe | (refine zxs (by omega) ?_; first | exact zxe | rfl) | rfl) | rfl) | rfl) (Or.inl ⟨rfl, (show _ = ((p + 1 : Nat) : Int) from by omega), by omega⟩))
            | exact p128hR
            | (rw [exAt_B (by omega), exB_f (by omega) (by omega) (by omega)]
               exact zEr_mk (by first | exact zxe | (refine zxs (by omega) ?_; first | exact zxe | (refine zxs (by omega) ?_; first | exact zxe | (refine zxs (by omega) ?_; first | exact zxe | rfl) | rfl) | rfl) | rfl) (by first | exact zxe | (refine zxs (by omega) ?_; first | exact zxe | (refine zxs (by omega) ?_; first | exact zxe | (refine zxs (by omega) ?_; first | exact zxe | rfl) | rfl) | rfl) | rfl) (Or.inr ⟨rfl, (show _ = ((p : Nat) : Int) from by omega), by omega, by omega⟩))
        · refine And.intro ⟨(by omega), (zRb rfl)⟩ ⟨fun h108 => ?_, fun h108 => ?_⟩
          · refine And.intro (zDX hD 0 rfl) ⟨_, sn_S_da3.up (by decide), ?_⟩
            refine ⟨k, n, e, p, (v13o : Int), rfl, hS, hR, hD, (by first | exact hk | (clear hQ; grind [xu])), (by first | exact (zEt_fr hE (fun c j h => rfl)) | (clear hQ; grind [xu])), (by omega), h2, (Eq.trans (b := ((-1) : Int)) h3 (by omega)), (by omega), (by clear hQ; grind [xu]), ?_⟩
            intro I128o p128hR p128bfr
            refine hQ _ ?_ (fun c j h0 h1 => ((p128bfr c j h0 h1).trans rfl))
            · first
              | (have q9 : j = dgN e 4 p := (by
                   have z1 := dgN_b hE2 (k := 4) hp
                   by_cases z2 : j < dgN e 4 p
                   · have z3 := dgN_in z2
                     omega
                   · omega)
                 rw [exAt_B (by omega), exB_d hdg]
                 exact zEr_mk (by first | exact zxe | (refine zxs (by omega) ?_; first | exact zxe | (refine zxs (by omega) ?_; first | exact zxe | (refine zxs (by omega) ?_; first | exact zxe | rfl) | rfl) | rfl) | rfl) (by first | exact zxe | (refine zxs (by omega) ?_; first | exact zxe | (refine zxs (by omega) ?_; first | exact zxe | (refine zxs (by omega) ?_; first | exact zxe | rfl) | rfl) | rfl) | rfl) (Or.inl ⟨rfl, (show _ = ((p + dgN e 4 p : Nat) : Int) from by omega), by omega⟩))
              | (rw [exAt_B (by omega), exB_v (by omega)]
                 exact zEr_mk (by first | exact zxe | (refine zxs (by omega) ?_; first | exact zxe | (refine zxs (by omega) ?_; first | exact zxe | (refine zxs (by omega) ?_; first | exact zxe | rfl) | rfl) | rfl) | rfl) (by first | exact zxe | (refine zxs (by omega) ?_; first | exact zxe | (refine zxs (by omega) ?_; first | exact zxe | (refine zxs (by omega) ?_; first | exact zxe | rfl) | rfl) | rfl) | rfl) (Or.inl ⟨rfl, (show _ = ((p + 1 : Nat) : Int) from by omega), by omega⟩))
              | (rw [exAt_B (by omega), exB_h (by omega)]
                 exact zEr_mk (by first | exact zxe | (refine zxs (by omega) ?_; first | exact zxe | (refine zxs (by omega) ?_; first | exact zxe | (refine zxs (by omega) ?_; first | exact zxe | rfl) | rfl) | rfl) | rfl) (by first | exact zxe | (refine zxs (by omega) ?_; first | exact zxe | (refine zxs (by omega) ?_; first | exact zxe | (refine zxs (by omega) ?_; first | exact zxe | rfl) | rfl) | rfl) | rfl) (Or.inl ⟨rfl, (show _ = ((p + 1 : Nat) : Int) from by omega), by omega⟩))
              | exact p128hR
              | (rw [exAt_B (by omega), exB_f (by omega) (by omega) (by omega)]
                 exact zEr_mk (by first | exact zxe | (refine zxs (by omega) ?_; first | exact zxe | (refine zxs (by omega) ?_; first | exact zxe | (refine zxs (by omega) ?_; first | exact zxe | rfl) | rfl) | rfl) | rfl) (by first | exact zxe | (refine zxs (by omega) ?_; first | exact zxe | (refine zxs (by omega) ?_; first | exact zxe | (refine zxs (by omega) ?_; first | exact zxe | rfl) | rfl) | rfl) | rfl) (Or.inr ⟨rfl, (show _ = ((p : Nat) : Int) from by omega), by omega, by omega⟩))
          · refine And.intro ⟨(by omega), (zRb rfl)⟩ ⟨(fun h114 => False.elim (by omega)), fun h114 => ?_⟩
            refine And.intro ⟨(by omega), (zRb rfl)⟩ ⟨fun h120 => ?_, fun h120 => ?_⟩
            · refine And.intro (zDX hD 0 rfl) (zrd (v := p) h2 ?_)
              refine And.intro (zDX hD 0 rfl) (Exists.intro _ (And.intro (zinl_ok (zT8_2 21)) (And.intro rfl ?_)))
              refine And.intro (zDX hD 0 rfl) (zrd (v := (-1)) h3 ?_)
              refine And.intro ⟨(zRb rfl), (zRb rfl)⟩ (zbf rfl ?_)
              refine And.intro (zDX hD 0 rfl) ⟨_, (zWi (by omega)), ?_⟩
              refine hQ _ ?_ (fun c j h0 h1 => (zxcj h1 rfl))
              · first
                | (have q9 : j = dgN e 4 p := (by
                     have z1 := dgN_b hE2 (k := 4) hp
                     by_cases z2 : j < dgN e 4 p
                     · have z3 := dgN_in z2
                       omega
                     · omega)
                   rw [exAt_B (by omega), exB_d hdg]
                   exact zEr_mk (by first | exact zxe | (refine zxs (by omega) ?_; first | exact zxe | (refine zxs (by omega) ?_; first | exact zxe | (refine zxs (by omega) ?_; first | exact zxe | rfl) | rfl) | rfl) | rfl) (by first | exact zxe | (refine zxs (by omega) ?_; first | exact zxe | (refine zxs (by omega) ?_; first | exact zxe | (refine zxs (by omega) ?_; first | exact zxe | rfl) | rfl) | rfl) | rfl) (Or.inl ⟨rfl, (show _ = ((p + dgN e 4 p : Nat) : Int) from by omega), by omega⟩))
                | (rw [exAt_B (by omega), exB_v (by omega)]
                   exact zEr_mk (by first | exact zxe | (refine zxs (by omega) ?_; first | exact zxe | (refine zxs (by omega) ?_; first | exact zxe | (refine zxs (by omega) ?_; first | exact zxe | rfl) | rfl) | rfl) | rfl) (by first | exact zxe | (refine zxs (by omega) ?_; first | exact zxe | (refine zxs (by omega) ?_; first | exact zxe | (refine zxs (by omega) ?_; first | exact zxe | rfl) | rfl) | rfl) | rfl) (Or.inl ⟨rfl, (show _ = ((p + 1 : Nat) : Int) from by omega), by omega⟩))
                | (rw [exAt_B (by omega), exB_h (by omega)]
                   exact zEr_mk (by first | exact zxe | (refine zxs (by omega) ?_; first | exact zxe | (refine zxs (by omega) ?_; first | exact zxe | (refine zxs (by omega) ?_; first | exact zxe | rfl) | rfl) | rfl) | rfl) (by first | exact zxe | (refine zxs (by omega) ?_; first | exact zxe | (refine zxs (by omega) ?_; first | exact zxe | (refine zxs (by omega) ?_; first | exact zxe | rfl) | rfl) | rfl) | rfl) (Or.inl ⟨rfl, (show _ = ((p + 1 : Nat) : Int) from by omega), by omega⟩))
                | exact p128hR
                | (rw [exAt_B (by omega), exB_f (by omega) (by omega) (by omega)]
                   exact zEr_mk (by first | exact zxe | (refine zxs (by omega) ?_; first | exact zxe | (refine zxs (by omega) ?_; first | exact zxe | (refine zxs (by omega) ?_; first | exact zxe | rfl) | rfl) | rfl) | rfl) (by first | exact zxe | (refine zxs (by omega) ?_; first | exact zxe | (refine zxs (by omega) ?_; first | exact zxe | (refine zxs (by omega) ?_; first | exact zxe | rfl) | rfl) | rfl) | rfl) (Or.inr ⟨rfl, (show _ = ((p : Nat) : Int) from by omega), by omega, by omega⟩))
            · refine And.intro (zDX hD 0 rfl) ⟨_, sn_S_da3.up (by decide), ?_⟩
              refine ⟨k, n, e, p, (v13o : Int), rfl, hS, hR, hD, (by first | exact hk | (clear hQ; grind [xu])), (by first | exact (zEt_fr hE (fun c j h => rfl)) | (clear hQ; grind [xu])), (by omega), h2, (Eq.trans (b := ((-1) : Int)) h3 (by omega)), (by omega), (by clear hQ; grind [xu]), ?_⟩
              intro I128o p128hR p128bfr
              refine hQ _ ?_ (fun c j h0 h1 => ((p128bfr c j h0 h1).trans rfl))
              · first
                | (have q9 : j = dgN e 4 p := (by
                     have z1 := dgN_b hE2 (k := 4) hp
                     by_cases z2 : j < dgN e 4 p
                     · have z3 := dgN_in z2
                       omega
                     · omega)
                   rw [exAt_B (by omega), exB_d hdg]
                   exact zEr_mk (by first | exact zxe | (refine zxs (by omega) ?_; first | exact zxe | (refine zxs (by omega) ?_; first | exact zxe | (refine zxs (by omega) ?_; first | exact zxe | rfl) | rfl) | rfl) | rfl) (by first | exact zxe | (refine zxs (by omega) ?_; first | exact zxe | (refine zxs (by omega) ?_; first | exact zxe | (refine zxs (by omega) ?_; first | exact zxe | rfl) | rfl) | rfl) | rfl) (Or.inl ⟨rfl, (show _ = ((p + dgN e 4 p : Nat) : Int) from by omega), by omega⟩))
                | (rw [exAt_B (by omega), exB_v (by omega)]
                   exact zEr_mk (by first | exact zxe | (refine zxs (by omega) ?_; first | exact zxe | (refine zxs (by omega) ?_; first | exact zxe | (refine zxs (by omega) ?_; first | exact zxe | rfl) | rfl) | rfl) | rfl) (by first | exact zxe | (refine zxs (by omega) ?_; first | exact zxe | (refine zxs (by omega) ?_; first | exact zxe | (refine zxs (by omega) ?_; first | exact zxe | rfl) | rfl) | rfl) | rfl) (Or.inl ⟨rfl, (show _ = ((p + 1 : Nat) : Int) from by omega), by omega⟩))
                | (rw [exAt_B (by omega), exB_h (by omega)]
                   exact zEr_mk (by first | exact zxe | (refine zxs (by omega) ?_; first | exact zxe | (refine zxs (by omega) ?_; first | exact zxe | (refine zxs (by omega) ?_; first | exact zxe | rfl) | rfl) | rfl) | rfl) (by first | exact zxe | (refine zxs (by omega) ?_; first | exact zxe | (refine zxs (by omega) ?_; first | exact zxe | (refine zxs (by omega) ?_; first | exact zxe | rfl) | rfl) | rfl) | rfl) (Or.inl ⟨rfl, (show _ = ((p + 1 : Nat) : Int) from by omega), by omega⟩))
                | exact p128hR
                | (rw [exAt_B (by omega), exB_f (by omega) (by omega) (by omega)]
                   exact zEr_mk (by first | exact zxe | (refine zxs (by omega) ?_; first | exact zxe | (refine zxs (by omega) ?_; first | exact zxe | (refine zxs (by omega) ?_; first | exact zxe | rfl) | rfl) | rfl) | rfl) (by first | exact zxe | (refine zxs (by omega) ?_; first | exact zxe | (refine zxs (by omega) ?_; first | exact zxe | (refine zxs (by omega) ?_; first | exact zxe | rfl) | rfl) | rfl) | rfl) (Or.inr ⟨rfl, (show _ = ((p : Nat) : Int) from by omega), by omega, by omega⟩))
      · refine And.intro (zDX hD 0 rfl) (zrd (v := p) h2 ?_)
        refine And.intro (zDX hD 0 rfl) ⟨_, (zWi (by omega)), ?_⟩
        refine hQ _ ?_ (fun c j h0 h1 => (zxcj h0 rfl))
        · first
          | (have q9 : j = dgN e 4 p := (by
               have z1 := dgN_b hE2 (k := 4) hp
               by_cases z2 : j < dgN e 4 p
               · have z3 := dgN_in z2
                 omega
               · omega)
             rw [exAt_B (by omega), exB_d hdg]
             exact zEr_mk (by first | exact zxe | (refine zxs (by omega) ?_; first | exact zxe | (refine zxs (by omega) ?_; first | exact zxe | (refine zxs (by omega) ?_; first | exact zxe | rfl) | rfl) | rfl) | rfl) (by first | exact zxe | (refine zxs (by omega) ?_; first | exact zxe | (refine zxs (by omega) ?_; first | exact zxe | (refine zxs (by omega) ?_; first | exact zxe | rfl) | rfl) | rfl) | rfl) (Or.inl ⟨rfl, (show _ = ((p + dgN e 4 p : Nat) : Int) from by omega), by omega⟩))
          | (rw [exAt_B (by omega), exB_v (by omega)]
             exact zEr_mk (by first | exact zxe | (refine zxs (by omega) ?_; first | exact zxe | (refine zxs (by omega) ?_; first | exact zxe | (refine zxs (by omega) ?_; first | exact zxe | rfl) | rfl) | rfl) | rfl) (by first | exact zxe | (refine zxs (by omega) ?_; first | exact zxe | (refine zxs (by omega) ?_; first | exact zxe | (refine zxs (by omega) ?_; first | exact zxe | rfl) | rfl) | rfl) | rfl) (Or.inl ⟨rfl, (show _ = ((p + 1 : Nat) : Int) from by omega), by omega⟩))
          | (rw [exAt_B (by omega), exB_h (by omega)]
             exact zEr_mk (by first | exact zxe | (refine zxs (by omega) ?_; first | exact zxe | (refine zxs (by omega) ?_; first | exact zxe | (refine zxs (by omega) ?_; first | exact zxe | rfl) | rfl) | rfl) | rfl) (by first | exact zxe | (refine zxs (by omega) ?_; first | exact zxe | (refine zxs (by omega) ?_; first | exact zxe | (refine zxs (by omega) ?_; first | exact zxe | rfl) | rfl) | rfl) | rfl) (Or.inl ⟨rfl, (show _ = ((p + 1 : Nat) : Int) from by omega), by omega⟩))
          | exact p128hR
          | (rw [exAt_B (by omega), exB_f (by omega) (by omega) (by omega)]
             exact zEr_mk (by first | exact zxe | (refine zxs (by omega) ?_; first | exact zxe | (refine zxs (by omega) ?_; first | exact zxe | (refine zxs (by omega) ?_; first | exact zxe | rfl) | rfl) | rfl) | rfl) (by first | exact zxe | (refine zxs (by omega) ?_; first | exact zxe | (refine zxs (by omega) ?_; first | exact zxe | (refine zxs (by omega) ?_; first | exact zxe | rfl) | rfl) | rfl) | rfl) (Or.inr ⟨rfl, (show _ = ((p : Nat) : Int) from by omega), by omega, by omega⟩))
    · refine And.intro ⟨(by omega), (zRb rfl)⟩ ⟨fun h9_22 => ?_, fun h9_22 => ?_⟩
      · refine And.intro (Or.inl rfl) ?_
        refine And.intro (zRb rfl) (zbt rfl ?_)
        refine Exists.intro _ (And.intro (zinl_ok (zT8_9 21)) (And.intro rfl ?_))
        refine And.intro ⟨(by omega), (zRb rfl)⟩ ⟨fun h3_69 => ?_, fun h3_69 => ?_⟩
        · refine And.intro (Or.inl rfl) ?_
          refine And.intro (zRb rfl) (zbf rfl ?_)
          refine And.intro ⟨(by omega), (zRb rfl)⟩ ⟨fun h78 => ?_, (fun h78 => False.elim (by omega))⟩
          refine And.intro ⟨(zRb rfl), (zRb rfl)⟩ (zbf rfl ?_)
          refine And.intro ⟨(by omega), (zRb rfl)⟩ ⟨(fun h102 => False.elim (by omega)), fun h102 => ?_⟩
          refine And.intro ⟨(by omega), (zRb rfl)⟩ ⟨(fun h108 => False.elim (by omega)), fun h108 => ?_⟩
          refine And.intro ⟨(by omega), (zRb rfl)⟩ ⟨fun h114 => ?_, fun h114 => ?_⟩
          · refine And.intro (zDX hD 0 rfl) ⟨_, sn_S_da3.up (by decide), ?_⟩
            refine ⟨k, n, e, p, (v13o : Int), rfl, hS, hR, hD, (by first | exact hk | (clear hQ; grind [xu])), (by first | exact (zEt_fr hE (fun c j h => rfl)) | (clear hQ; grind [xu])), (by omega), h2, (Eq.trans (b := ((-1) : Int)) h3 (by omega)), (by omega), (by clear hQ; grind [xu]), ?_⟩
            intro I128o p128hR p128bfr
            refine hQ _ ?_ (fun c j h0 h1 => ((p128bfr c j h0 h1).trans rfl))
            · first
              | (have q9 : j = dgN e 4 p := (by
                   have z1 := dgN_b hE2 (k := 4) hp
                   by_cases z2 : j < dgN e 4 p
                   · have z3 := dgN_in z2
                     omega
                   · omega)
                 rw [exAt_B (by omega), exB_d hdg]
                 exact zEr_mk (by first | exact zxe | (refine zxs (by omega) ?_; first | exact zxe | (refine zxs (by omega) ?_; first | exact zxe | (refine zxs (by omega) ?_; first | exact zxe | rfl) | rfl) | rfl) | rfl) (by first | exact zxe | (refine zxs (by omega) ?_; first | exact zxe | (refine zxs (by omega) ?_; first | exact zxe | (refine zxs (by omega) ?_; first | exact zxe | rfl) | rfl) | rfl) | rfl) (Or.inl ⟨rfl, (show _ = ((p + dgN e 4 p : Nat) : Int) from by omega), by omega⟩))
              | (rw [exAt_B (by omega), exB_v (by omega)]
                 exact zEr_mk (by first | exact zxe | (refine zxs (by omega) ?_; first | exact zxe | (refine zxs (by omega) ?_; first | exact zxe | (refine zxs (by omega) ?_; first | exact zxe | rfl) | rfl) | rfl) | rfl) (by first | exact zxe | (refine zxs (by omega) ?_; first | exact zxe | (refine zxs (by omega) ?_; first | exact zxe | (refine zxs (by omega) ?_; first | exact zxe | rfl) | rfl) | rfl) | rfl) (Or.inl ⟨rfl, (show _ = ((p + 1 : Nat) : Int) from by omega), by omega⟩))
              | (rw [exAt_B (by omega), exB_h (by omega)]
                 exact zEr_mk (by first | exact zxe | (refine zxs (by omega) ?_; first | exact zxe | (refine zxs (by omega) ?_; first | exact zxe | (refine zxs (by omega) ?_; first | exact zxe | rfl) | rfl) | rfl) | rfl) (by first | exact zxe | (refine zxs (by omega) ?_; first | exact zxe | (refine zxs (by omega) ?_; first | exact zxe | (refine zxs (by omega) ?_; first | exact zxe | rfl) | rfl) | rfl) | rfl) (Or.inl ⟨rfl, (show _ = ((p + 1 : Nat) : Int) from by omega), by omega⟩))
              | exact p128hR
              | (rw [exAt_B (by omega), exB_f (by omega) (by omega) (by omega)]
                 exact zEr_mk (by first | exact zxe | (refine zxs (by omega) ?_; first | exact zxe | (refine zxs (by omega) ?_; first | exact zxe | (refine zxs (by omega) ?_; first | exact zxe | rfl) | rfl) | rfl) | rfl) (by first | exact zxe | (refine zxs (by omega) ?_; first | exact zxe | (refine zxs (by omega) ?_; first | exact zxe | (refine zxs (by omega) ?_; first | exact zxe | rfl) | rfl) | rfl) | rfl) (Or.inr ⟨rfl, (show _ = ((p : Nat) : Int) from by omega), by omega, by omega⟩))
          · refine And.intro ⟨(by omega), (zRb rfl)⟩ ⟨fun h120 => ?_, (fun h120 => False.elim (by omega))⟩
            refine And.intro (zDX hD 0 rfl) (zrd (v := p) h2 ?_)
            refine And.intro (zDX hD 0 rfl) (Exists.intro _ (And.intro (zinl_ok (zT8_2 21)) (And.intro rfl ?_)))
            refine And.intro (zDX hD 0 rfl) (zrd (v := (-1)) h3 ?_)
            refine And.intro ⟨(zRb rfl), (zRb rfl)⟩ (zbf rfl ?_)
            refine And.intro (zDX hD 0 rfl) ⟨_, (zWi (by omega)), ?_⟩
            refine hQ _ ?_ (fun c j h0 h1 => (zxcj h1 rfl))
            · first
              | (have q9 : j = dgN e 4 p := (by
                   have z1 := dgN_b hE2 (k := 4) hp
                   by_cases z2 : j < dgN e 4 p
                   · have z3 := dgN_in z2
                     omega
                   · omega)
                 rw [exAt_B (by omega), exB_d hdg]
                 exact zEr_mk (by first | exact zxe | (refine zxs (by omega) ?_; first | exact zxe | (refine zxs (by omega) ?_; first | exact zxe | (refine zxs (by omega) ?_; first | exact zxe | rfl) | rfl) | rfl) | rfl) (by first | exact zxe | (refine zxs (by omega) ?_; first | exact zxe | (refine zxs (by omega) ?_; first | exact zxe | (refine zxs (by omega) ?_; first | exact zxe | rfl) | rfl) | rfl) | rfl) (Or.inl ⟨rfl, (show _ = ((p + dgN e 4 p : Nat) : Int) from by omega), by omega⟩))
              | (rw [exAt_B (by omega), exB_v (by omega)]
                 exact zEr_mk (by first | exact zxe | (refine zxs (by omega) ?_; first | exact zxe | (refine zxs (by omega) ?_; first | exact zxe | (refine zxs (by omega) ?_; first | exact zxe | rfl) | rfl) | rfl) | rfl) (by first | exact zxe | (refine zxs (by omega) ?_; first | exact zxe | (refine zxs (by omega) ?_; first | exact zxe | (refine zxs (by omega) ?_; first | exact zxe | rfl) | rfl) | rfl) | rfl) (Or.inl ⟨rfl, (show _ = ((p + 1 : Nat) : Int) from by omega), by omega⟩))
              | (rw [exAt_B (by omega), exB_h (by omega)]
                 exact zEr_mk (by first | exact zxe | (refine zxs (by omega) ?_; first | exact zxe | (refine zxs (by omega) ?_; first | exact zxe | (refine zxs (by omega) ?_; first | exact zxe | rfl) | rfl) | rfl) | rfl) (by first | exact zxe | (refine zxs (by omega) ?_; first | exact zxe | (refine zxs (by omega) ?_; first | exact zxe | (refine zxs (by omega) ?_; first | exact zxe | rfl) | rfl) | rfl) | rfl) (Or.inl ⟨rfl, (show _ = ((p + 1 : Nat) : Int) from by omega), by omega⟩))
              | exact p128hR
              | (rw [exAt_B (by omega), exB_f (by omega) (by omega) (by omega)]
                 exact zEr_mk (by first | exact zxe | (refine zxs (by omega) ?_; first | exact zxe | (refine zxs (by omega) ?_; first | exact zxe | (refine zxs (by omega) ?_; first | exact zxe | rfl) | rfl) | rfl) | rfl) (by first | exact zxe | (refine zxs (by omega) ?_; first | exact zxe | (refine zxs (by omega) ?_; first | exact zxe | (refine zxs (by omega) ?_; first | exact zxe | rfl) | rfl) | rfl) | rfl) (Or.inr ⟨rfl, (show _ = ((p : Nat) : Int) from by omega), by omega, by omega⟩))
        · refine And.intro ⟨(by omega), (zRb rfl)⟩ ⟨fun h9_69 => ?_, fun h9_69 => ?_⟩
          · refine And.intro (Or.inl rfl) ?_
            refine And.intro (zRb rfl) (zbf rfl ?_)
            refine And.intro ⟨(by omega), (zRb rfl)⟩ ⟨fun h78 => ?_, (fun h78 => False.elim (by omega))⟩
            refine And.intro ⟨(zRb rfl), (zRb rfl)⟩ (zbf rfl ?_)
            refine And.intro ⟨(by omega), (zRb rfl)⟩ ⟨(fun h102 => False.elim (by omega)), fun h102 => ?_⟩
            refine And.intro ⟨(by omega), (zRb rfl)⟩ ⟨(fun h108 => False.elim (by omega)), fun h108 => ?_⟩
            refine And.intro ⟨(by omega), (zRb rfl)⟩ ⟨(fun h114 => False.elim (by omega)), fun h114 => ?_⟩
            refine And.intro ⟨(by omega), (zRb rfl)⟩ ⟨fun h120 => ?_, (fun h120 => False.elim (by omega))⟩
            refine And.intro (zDX hD 0 rfl) (zrd (v := p) h2 ?_)
            refine And.intro (zDX hD 0 rfl) (Exists.intro _ (And.intro (zinl_ok (zT8_2 21)) (And.intro rfl ?_)))
            refine And.intro (zDX hD 0 rfl) (zrd (v := (-1)) h3 ?_)
            refine And.intro ⟨(zRb rfl), (zRb rfl)⟩ (zbf rfl ?_)
            refine And.intro (zDX hD 0 rfl) ⟨_, (zWi (by omega)), ?_⟩
            refine hQ _ ?_ (fun c j h0 h1 => (zxcj h1 rfl))
            · first
              | (have q9 : j = dgN e 4 p := (by
                   have z1 := dgN_b hE2 (k := 4) hp
                   by_cases z2 : j < dgN e 4 p
                   · have z3 := dgN_in z2
                     omega
                   · omega)
                 rw [exAt_B (by omega), exB_d hdg]
                 exact zEr_mk (by first | exact zxe | (refine zxs (by omega) ?_; first | exact zxe | (refine zxs (by omega) ?_; first | exact zxe | (refine zxs (by omega) ?_; first | exact zxe | rfl) | rfl) | rfl) | rfl) (by first | exact zxe | (refine zxs (by omega) ?_; first | exact zxe | (refine zxs (by omega) ?_; first | exact zxe | (refine zxs (by omega) ?_; first | exact zxe | rfl) | rfl) | rfl) | rfl) (Or.inl ⟨rfl, (show _ = ((p + dgN e 4 p : Nat) : Int) from by omega), by omega⟩))
              | (rw [exAt_B (by omega), exB_v (by omega)]
                 exact zEr_mk (by first | exact zxe | (refine zxs (by omega) ?_; first | exact zxe | (refine zxs (by omega) ?_; first | exact zxe | (refine zxs (by omega) ?_; first | exact zxe | rfl) | rfl) | rfl) | rfl) (by first | exact zxe | (refine zxs (by omega) ?_; first | exact zxe | (refine zxs (by omega) ?_; first | exact zxe | (refine zxs (by omega) ?_; first | exact zxe | rfl) | rfl) | rfl) | rfl) (Or.inl ⟨rfl, (show _ = ((p + 1 : Nat) : Int) from by omega), by omega⟩))
              | (rw [exAt_B (by omega), exB_h (by omega)]
                 exact zEr_mk (by first | exact zxe | (refine zxs (by omega) ?_; first | exact zxe | (refine zxs (by omega) ?_; first | exact zxe | (refine zxs (by omega) ?_; first | exact zxe | rfl) | rfl) | rfl) | rfl) (by first | exact zxe | (refine zxs (by omega) ?_; first | exact zxe | (refine zxs (by omega) ?_; first | exact zxe | (refine zxs (by omega) ?_; first | exact zxe | rfl) | rfl) | rfl) | rfl) (Or.inl ⟨rfl, (show _ = ((p + 1 : Nat) : Int) from by omega), by omega⟩))
              | exact p128hR
              | (rw [exAt_B (by omega), exB_f (by omega) (by omega) (by omega)]
                 exact zEr_mk (by first | exact zxe | (refine zxs (by omega) ?_; first | exact zxe | (refine zxs (by omega) ?_; first | exact zxe | (refine zxs (by omega) ?_; first | exact zxe | rfl) | rfl) | rfl) | rfl) (by first | exact zxe | (refine zxs (by omega) ?_; first | exact zxe | (refine zxs (by omega) ?_; first | exact zxe | (refine zxs (by omega) ?_; first | exact zxe | rfl) | rfl) | rfl) | rfl) (Or.inr ⟨rfl, (show _ = ((p : Nat) : Int) from by omega), by omega, by omega⟩))
          · refine And.intro (Or.inr rfl) ?_
            refine And.intro (zRb rfl) (zbt rfl ?_)
            refine And.intro (zDX hD 0 rfl) (zrd (v := p) h2 ?_)
            refine And.intro (zDX hD 0 rfl) ⟨_, (zWi (by omega)), ?_⟩
            refine hQ _ ?_ (fun c j h0 h1 => (zxcj h0 rfl))
            · first
              | (have q9 : j = dgN e 4 p := (by
                   have z1 := dgN_b hE2 (k := 4) hp
                   by_cases z2 : j < dgN e 4 p
                   · have z3 := dgN_in z2
                     omega
                   · omega)
                 rw [exAt_B (by omega), exB_d hdg]
                 exact zEr_mk (by first | exact zxe | (refine zxs (by omega) ?_; first | exact zxe | (refine zxs (by omega) ?_; first | exact zxe | (refine zxs (by omega) ?_; first | exact zxe | rfl) | rfl) | rfl) | rfl) (by first | exact zxe | (refine zxs (by omega) ?_; first | exact zxe | (refine zxs (by omega) ?_; first | exact zxe | (refine zxs (by omega) ?_; first | exact zxe | rfl) | rfl) | rfl) | rfl) (Or.inl ⟨rfl, (show _ = ((p + dgN e 4 p : Nat) : Int) from by omega), by omega⟩))
              | (rw [exAt_B (by omega), exB_v (by omega)]
                 exact zEr_mk (by first | exact zxe | (refine zxs (by omega) ?_; first | exact zxe | (refine zxs (by omega) ?_; first | exact zxe | (refine zxs (by omega) ?_; first | exact zxe | rfl) | rfl) | rfl) | rfl) (by first | exact zxe | (refine zxs (by omega) ?_; first | exact zxe | (refine zxs (by omega) ?_; first | exact zxe | (refine zxs (by omega) ?_; first | exact zxe | rfl) | rfl) | rfl) | rfl) (Or.inl ⟨rfl, (show _ = ((p + 1 : Nat) : Int) from by omega), by omega⟩))
              | (rw [exAt_B (by omega), exB_h (by omega)]
                 exact zEr_mk (by first | exact zxe | (refine zxs (by omega) ?_; first | exact zxe | (refine zxs (by omega) ?_; first | exact zxe | (refine zxs (by omega) ?_; first | exact zxe | rfl) | rfl) | rfl) | rfl) (by first | exact zxe | (refine zxs (by omega) ?_; first | exact zxe | (refine zxs (by omega) ?_; first | exact zxe | (refine zxs (by omega) ?_; first | exact zxe | rfl) | rfl) | rfl) | rfl) (Or.inl ⟨rfl, (show _ = ((p + 1 : Nat) : Int) from by omega), by omega⟩))
              | exact p128hR
              | (rw [exAt_B (by omega), exB_f (by omega) (by omega) (by omega)]
                 exact zEr_mk (by first | exact zxe | (refine zxs (by omega) ?_; first | exact zxe | (refine zxs (by omega) ?_; first | exact zxe | (refine zxs (by omega) ?_; first | exact zxe | rfl) | rfl) | rfl) | rfl) (by first | exact zxe | (refine zxs (by omega) ?_; first | exact zxe | (refine zxs (by omega) ?_; first | exact zxe | (refine zxs (by omega) ?_; first | exact zxe | rfl) | rfl) | rfl) | rfl) (Or.inr ⟨rfl, (show _ = ((p : Nat) : Int) from by omega), by omega, by omega⟩))
      · refine And.intro (Or.inr rfl) ?_
        refine And.intro (zRb rfl) (zbf rfl ?_)
        refine ⟨((5 - (0 : Nat)), 0, 0), [some (zvr (k)), none, none, some (zvi ((0 : Nat)))], ⟨rfl, rfl, rfl⟩, 0, rfl, rfl, rfl, rfl, rfl, rfl, (by omega), (by omega), (by omega), (by omega), (Eq.trans (b := (p : Int)) h2 (by omega)), (Eq.trans (b := ((-1) : Int)) h3 (by omega)), (fun c j h0 h1 => rfl)⟩
  · rintro nM lsM stM I1 L1 R1 S1 hz1 ⟨j, rfl, rfl, rfl, rfl, rfl, rfl, hj, hjn, hdg, hjd, h21, h31, fr⟩
    have hE_1 : zEt k n e I1 := zEt_fr hE (fun c j h => fr c j (by omega) (by omega))
    refine And.intro ⟨(by omega), (zRb rfl)⟩ ⟨fun h32 => ?_, fun h32 => ?_⟩
    · refine hQ _ ?_ (fun c j h0 h1 => ((fr c j h0 h1).trans rfl))
      · first
        | (have q9 : j = dgN e 4 p := (by
             have z1 := dgN_b hE2 (k := 4) hp
             by_cases z2 : j < dgN e 4 p
             · have z3 := dgN_in z2
               omega
             · omega)
           rw [exAt_B (by omega), exB_d hdg]
           exact zEr_mk (by first | exact zxe | (refine zxs (by omega) ?_; first | exact zxe | (refine zxs (by omega) ?_; first | exact zxe | (refine zxs (by omega) ?_; first | exact zxe | rfl) | rfl) | rfl) | rfl) (by first | exact zxe | (refine zxs (by omega) ?_; first | exact zxe | (refine zxs (by omega) ?_; first | exact zxe | (refine zxs (by omega) ?_; first | exact zxe | rfl) | rfl) | rfl) | rfl) (Or.inl ⟨rfl, (show _ = ((p + dgN e 4 p : Nat) : Int) from by omega), by omega⟩))
        | (rw [exAt_B (by omega), exB_v (by omega)]
           exact zEr_mk (by first | exact zxe | (refine zxs (by omega) ?_; first | exact zxe | (refine zxs (by omega) ?_; first | exact zxe | (refine zxs (by omega) ?_; first | exact zxe | rfl) | rfl) | rfl) | rfl) (by first | exact zxe | (refine zxs (by omega) ?_; first | exact zxe | (refine zxs (by omega) ?_; first | exact zxe | (refine zxs (by omega) ?_; first | exact zxe | rfl) | rfl) | rfl) | rfl) (Or.inl ⟨rfl, (show _ = ((p + 1 : Nat) : Int) from by omega), by omega⟩))
        | (rw [exAt_B (by omega), exB_h (by omega)]
           exact zEr_mk (by first | exact zxe | (refine zxs (by omega) ?_; first | exact zxe | (refine zxs (by omega) ?_; first | exact zxe | (refine zxs (by omega) ?_; first | exact zxe | rfl) | rfl) | rfl) | rfl) (by first | exact zxe | (refine zxs (by omega) ?_; first | exact zxe | (refine zxs (by omega) ?_; first | exact zxe | (refine zxs (by omega) ?_; first | exact zxe | rfl) | rfl) | rfl) | rfl) (Or.inl ⟨rfl, (show _ = ((p + 1 : Nat) : Int) from by omega), by omega⟩))
        | exact p128hR
        | (rw [exAt_B (by omega), exB_f (by omega) (by omega) (by omega)]
           exact zEr_mk (by first | exact zxe | (refine zxs (by omega) ?_; first | exact zxe | (refine zxs (by omega) ?_; first | exact zxe | (refine zxs (by omega) ?_; first | exact zxe | rfl) | rfl) | rfl) | rfl) (by first | exact zxe | (refine zxs (by omega) ?_; first | exact zxe | (refine zxs (by omega) ?_; first | exact zxe | (refine zxs (by omega) ?_; first | exact zxe | rfl) | rfl) | rfl) | rfl) (Or.inr ⟨rfl, (show _ = ((p : Nat) : Int) from by omega), by omega, by omega⟩))
    · refine And.intro (zDX hD 0 rfl) (zrd (v := (p + j)) h21 ?_)
      refine And.intro (zDX hD 0 rfl) ⟨_, sn_S_let.up (by decide), ?_⟩
      refine ⟨_, n, e, ((p + j) : Int), (p + j), rfl, hS, hR, hD, (by first | exact hk | (clear hQ; grind [xu])), hE_1, (by omega), ?_⟩
      intro v40o p40hv p40bhv2
      refine Exists.intro _ (And.intro (zinl_ok (zT8_6 21)) (And.intro rfl ?_))
      refine And.intro ⟨(by omega), (zRb rfl)⟩ ⟨fun h3_43 => ?_, fun h3_43 => ?_⟩
      · refine And.intro (Or.inl rfl) ?_
        refine And.intro (zRb rfl) (zbt rfl ?_)
        refine hQ _ ?_ (fun c j h0 h1 => ((fr c j h0 h1).trans rfl))
        · first
          | (have q9 : j = dgN e 4 p := (by
               have z1 := dgN_b hE2 (k := 4) hp
               by_cases z2 : j < dgN e 4 p
               · have z3 := dgN_in z2
                 omega
               · omega)
             rw [exAt_B (by omega), exB_d hdg]
             exact zEr_mk (by first | exact zxe | (refine zxs (by omega) ?_; first | exact zxe | (refine zxs (by omega) ?_; first | exact zxe | (refine zxs (by omega) ?_; first | exact zxe | rfl) | rfl) | rfl) | rfl) (by first | exact zxe | (refine zxs (by omega) ?_; first | exact zxe | (refine zxs (by omega) ?_; first | exact zxe | (refine zxs (by omega) ?_; first | exact zxe | rfl) | rfl) | rfl) | rfl) (Or.inl ⟨rfl, (show _ = ((p + dgN e 4 p : Nat) : Int) from by omega), by omega⟩))
          | (rw [exAt_B (by omega), exB_v (by omega)]
             exact zEr_mk (by first | exact zxe | (refine zxs (by omega) ?_; first | exact zxe | (refine zxs (by omega) ?_; first | exact zxe | (refine zxs (by omega) ?_; first | exact zxe | rfl) | rfl) | rfl) | rfl) (by first | exact zxe | (refine zxs (by omega) ?_; first | exact zxe | (refine zxs (by omega) ?_; first | exact zxe | (refine zxs (by omega) ?_; first | exact zxe | rfl) | rfl) | rfl) | rfl) (Or.inl ⟨rfl, (show _ = ((p + 1 : Nat) : Int) from by omega), by omega⟩))
          | (rw [exAt_B (by omega), exB_h (by omega)]
             exact zEr_mk (by first | exact zxe | (refine zxs (by omega) ?_; first | exact zxe | (refine zxs (by omega) ?_; first | exact zxe | (refine zxs (by omega) ?_; first | exact zxe | rfl) | rfl) | rfl) | rfl) (by first | exact zxe | (refine zxs (by omega) ?_; first | exact zxe | (refine zxs (by omega) ?_; first | exact zxe | (refine zxs (by omega) ?_; first | exact zxe | rfl) | rfl) | rfl) | rfl) (Or.inl ⟨rfl, (show _ = ((p + 1 : Nat) : Int) from by omega), by omega⟩))
          | exact p128hR
          | (rw [exAt_B (by omega), exB_f (by omega) (by omega) (by omega)]
             exact zEr_mk (by first | exact zxe | (refine zxs (by omega) ?_; first | exact zxe | (refine zxs (by omega) ?_; first | exact zxe | (refine zxs (by omega) ?_; first | exact zxe | rfl) | rfl) | rfl) | rfl) (by first | exact zxe | (refine zxs (by omega) ?_; first | exact zxe | (refine zxs (by omega) ?_; first | exact zxe | (refine zxs (by omega) ?_; first | exact zxe | rfl) | rfl) | rfl) | rfl) (Or.inr ⟨rfl, (show _ = ((p : Nat) : Int) from by omega), by omega, by omega⟩))
      · refine And.intro ⟨(by omega), (zRb rfl)⟩ ⟨fun h9_43 => ?_, fun h9_43 => ?_⟩
        · refine And.intro (Or.inl rfl) ?_
          refine And.intro (zRb rfl) (zbt rfl ?_)
          refine hQ _ ?_ (fun c j h0 h1 => ((fr c j h0 h1).trans rfl))
          · first
            | (have q9 : j = dgN e 4 p := (by
                 have z1 := dgN_b hE2 (k := 4) hp
                 by_cases z2 : j < dgN e 4 p
                 · have z3 := dgN_in z2
                   omega
                 · omega)
               rw [exAt_B (by omega), exB_d hdg]
               exact zEr_mk (by first | exact zxe | (refine zxs (by omega) ?_; first | exact zxe | (refine zxs (by omega) ?_; first | exact zxe | (refine zxs (by omega) ?_; first | exact zxe | rfl) | rfl) | rfl) | rfl) (by first | exact zxe | (refine zxs (by omega) ?_; first | exact zxe | (refine zxs (by omega) ?_; first | exact zxe | (refine zxs (by omega) ?_; first | exact zxe | rfl) | rfl) | rfl) | rfl) (Or.inl ⟨rfl, (show _ = ((p + dgN e 4 p : Nat) : Int) from by omega), by omega⟩))
            | (rw [exAt_B (by omega), exB_v (by omega)]
               exact zEr_mk (by first | exact zxe | (refine zxs (by omega) ?_; first | exact zxe | (refine zxs (by omega) ?_; first | exact zxe | (refine zxs (by omega) ?_; first | exact zxe | rfl) | rfl) | rfl) | rfl) (by first | exact zxe | (refine zxs (by omega) ?_; first | exact zxe | (refine zxs (by omega) ?_; first | exact zxe | (refine zxs (by omega) ?_; first | exact zxe | rfl) | rfl) | rfl) | rfl) (Or.inl ⟨rfl, (show _ = ((p + 1 : Nat) : Int) from by omega), by omega⟩))
            | (rw [exAt_B (by omega), exB_h (by omega)]
               exact zEr_mk (by first | exact zxe | (refine zxs (by omega) ?_; first | exact zxe | (refine zxs (by omega) ?_; first | exact zxe | (refine zxs (by omega) ?_; first | exact zxe | rfl) | rfl) | rfl) | rfl) (by first | exact zxe | (refine zxs (by omega) ?_; first | exact zxe | (refine zxs (by omega) ?_; first | exact zxe | (refine zxs (by omega) ?_; first | exact zxe | rfl) | rfl) | rfl) | rfl) (Or.inl ⟨rfl, (show _ = ((p + 1 : Nat) : Int) from by omega), by omega⟩))
            | exact p128hR
            | (rw [exAt_B (by omega), exB_f (by omega) (by omega) (by omega)]
               exact zEr_mk (by first | exact zxe | (refine zxs (by omega) ?_; first | exact zxe | (refine zxs (by omega) ?_; first | exact zxe | (refine zxs (by omega) ?_; first | exact zxe | rfl) | rfl) | rfl) | rfl) (by first | exact zxe | (refine zxs (by omega) ?_; first | exact zxe | (refine zxs (by omega) ?_; first | exact zxe | (refine zxs (by omega) ?_; first | exact zxe | rfl) | rfl) | rfl) | rfl) (Or.inr ⟨rfl, (show _ = ((p : Nat) : Int) from by omega), by omega, by omega⟩))
        · refine And.intro (Or.inr rfl) ?_
          refine And.intro (zRb rfl) (zbf rfl ?_)
          refine And.intro (zDX hD 0 rfl) (zrd (v := (p + j)) h21 ?_)
          refine And.intro (zDX hD 0 rfl) ⟨_, (zWi (by omega)), ?_⟩
          refine ⟨((5 - (j + 1)), 0, 0), zlt6 (by omega), [some (zvr (k)), none, none, some (zvi ((j + 1)))], ⟨rfl, rfl, rfl⟩, (j + 1), rfl, rfl, rfl, rfl, rfl, rfl, (by omega), (by have z9 := eTx_lt hE2 (p := p + j) (by omega); omega), (by omega), (by by_cases z2 : j < dgN e 4 p; exact z2; (have z4 : dgN e 4 p = j := (by omega); have z3 := dgN_no (c := e) (k := 4) (p := p) (by omega); rw [z4] at z3; omega)), (Eq.trans (b := (((p + j) + 1) : Int)) zxe (by omega)), (Eq.trans (b := ((-1) : Int)) (zxs (by decide) h31) (by omega)), (fun c j h0 h1 => (zxcj h0 ((fr c j h0 h1).trans rfl)))⟩)
def T_S_pr3 : ZT := fun args I L R S Q => ∃ (k : Nat) (n : Nat) (e : Nat → Int) (p : Nat), args = [zvr k, zvi 0] ∧ (zSh S) ∧ (zRs R) ∧ (zDy zT8 zF8 k R S) ∧ (k = 130 ∨ k = 134) ∧ (zEt k n e I) ∧ (p ≤ n) ∧ (I k 2 = p) ∧ (I k 3 = -1) ∧ ∀ (I' : ZI), (zEr k 405 (exPr e (exAt e 3) p) I') → (∀ c j : Nat, ¬ (c = k ∧ j = 2) → ¬ (c = k ∧ j = 3) → I' c j = I c j) → Q none I' L R S
theorem sn_S_pr3 : ZSnd 24 8 18 T_S_pr3 := ZSnd.loops (zT8_18 23) (by
  rintro args I L R S Q hz ⟨k, n, e, p, rfl, hS, hR, hD, hk, hE, hp, h2, h3, hQ⟩
  have hk130 : 130 ≤ k := by omega
  have hk134 : k ≤ 134 := by omega
  obtain ⟨hE1, hE2, hE3⟩ := id hE
  have hn4 := hE2.1
  refine ⟨[7], fun nM tM lsM stM I1 L1 R1 S1 => match tM with
      | 7 => ∃ (m : Nat) (y : ExR), nM = ((401 - m), 0, 0) ∧ lsM = [some (zvr (k)), some (zvi (0)), some (zvi (m))] ∧ stM = [] ∧ L1 = L ∧ R1 = R ∧ S1 = S ∧ (m ≤ 400) ∧ (zEr k 405 y I1) ∧ (exOk n p y) ∧ (exLp e 42 47 37 (exAt e 3) (400 - m) y = exPr e (exAt e 3) p) ∧ (∀ c j : Nat, ¬ (c = k ∧ j = 2) → ¬ (c = k ∧ j = 3) → I1 c j = I c j)
      | _ => False, rfl, ?_, ⟨?_, True.intro⟩⟩
  · refine And.intro (zDX hD 0 rfl) ⟨_, sn_S_at3.up (by decide), ?_⟩
    refine ⟨_, n, e, p, rfl, hS, hR, hD, (by first | exact hk | (clear hQ; grind [xu])), hE, (by omega), h2, (Eq.trans (b := ((-1) : Int)) h3 (by omega)), ?_⟩
    intro I2o p2hR p2bfr
    refine ⟨((401 - (0 : Nat)), 0, 0), [some (zvr (k)), some (zvi (0)), some (zvi ((0 : Nat)))], ⟨rfl, rfl, rfl, rfl⟩, 0, ((exAt e 3) p), rfl, rfl, rfl, rfl, rfl, rfl, (by omega), p2hR, (exAt_ok hE2 hp), rfl, (fun c j h0 h1 => ((p2bfr c j h0 h1).trans rfl))⟩
  · rintro nM lsM stM I1 L1 R1 S1 hz1 ⟨m, y, rfl, rfl, rfl, rfl, rfl, rfl, hm, hY, hyok, hrest, fr⟩
    have hE_1 : zEt k n e I1 := zEt_fr hE (fun c j h => fr c j (by omega) (by omega))
    have hYd : (y.1 = 1 ∧ I1 k 2 = y.2.1 ∧ I1 k 3 = -1) ∨ (y.1 = 0 ∧ I1 k 3 = y.2.1 ∧ 0 ≤ I1 k 2 ∧ I1 k 2 ≤ 405) := hY
    have hYo : (y.1 = 1 ∧ p < y.2.1 ∧ y.2.1 ≤ n) ∨ (y.1 = 0 ∧ y.2.1 ≤ n) := hyok
    have hE11 : I1 k 1 = n := hE_1.1
    have hb8 := hE2.2.2 y.2.1
    refine And.intro ⟨(by omega), (zRb rfl)⟩ ⟨fun h11 => ?_, fun h11 => ?_⟩
    · refine hQ _ ?_ (fun c j h0 h1 => ((fr c j h0 h1).trans rfl))
      · have z2 : y = exPr e (exAt e 3) p := by
          first
          | (rw [exLp_0 (fun q => by omega)] at hrest
             exact hrest)
          | (have z1 : 400 - m = 0 := (by omega)
             rw [z1] at hrest
             exact hrest)
        rw [← z2]
        exact hY
    · refine And.intro (zDX hD 0 rfl) (Exists.intro _ (And.intro (zinl_ok (zT8_8 22)) (And.intro rfl ?_)))
      refine And.intro (zDX hD 0 rfl) (fun v1_17 e1_17 r1_17 => ?_)
      refine And.intro ⟨r1_17, (zRb rfl)⟩ ⟨fun h5_17 => ?_, fun h5_17 => ?_⟩
      · refine And.intro (Or.inl rfl) ?_
        refine And.intro (zRb rfl) (zbf rfl ?_)
        refine And.intro (zDX hD 0 rfl) (Exists.intro _ (And.intro (zinl_ok (zT8_8 22)) (And.intro rfl ?_)))
        refine And.intro (zDX hD 0 rfl) (fun v1_26 e1_26 r1_26 => ?_)
        refine And.intro ⟨r1_26, (zRb rfl)⟩ ⟨fun h5_26 => ?_, fun h5_26 => ?_⟩
        · refine And.intro (Or.inl rfl) ?_
          refine And.intro (zRb rfl) (zbf rfl ?_)
          refine And.intro (zDX hD 0 rfl) (Exists.intro _ (And.intro (zinl_ok (zT8_8 22)) (And.intro rfl ?_)))
          refine And.intro (zDX hD 0 rfl) (fun v1_35 e1_35 r1_35 => ?_)
          refine And.intro ⟨r1_35, (zRb rfl)⟩ ⟨fun h5_35 => ?_, fun h5_35 => ?_⟩
          · refine And.intro (Or.inl rfl) ?_
            refine And.intro (zRb rfl) (zbt rfl ?_)
            refine hQ _ ?_ (fun c j h0 h1 => ((fr c j h0 h1).trans rfl))
            · have z2 : y = exPr e (exAt e 3) p := by
                first
                | (rw [exLp_0 (fun q => by omega)] at hrest
                   exact hrest)
                | (have z1 : 400 - m = 0 := (by omega)
                   rw [z1] at hrest
                   exact hrest)
              rw [← z2]
              exact hY
          · refine And.intro (zDX hD 0 rfl) (fun v10_35 e10_35 r10_35 => ?_)
            refine And.intro (zDX hD 0 rfl) ⟨_, sn_S_let.up (by decide), ?_⟩
            refine ⟨_, n, e, (v10_35 : Int), y.2.1, rfl, hS, hR, hD, (by first | exact hk | (clear hQ; grind [xu])), hE_1, (by omega), ?_⟩
            intro v13_35o p13_35hv p13_35bhv2
            refine And.intro ⟨(by omega), (zRb rfl)⟩ ⟨fun h17_35 => ?_, fun h17_35 => ?_⟩
            · refine And.intro (Or.inl rfl) ?_
              refine And.intro (zRb rfl) (zbt rfl ?_)
              refine hQ _ ?_ (fun c j h0 h1 => ((fr c j h0 h1).trans rfl))
              · have z2 : y = exPr e (exAt e 3) p := by
                  first
                  | (rw [exLp_0 (fun q => by omega)] at hrest
                     exact hrest)
                  | (have z1 : 400 - m = 0 := (by omega)
                     rw [z1] at hrest
                     exact hrest)
                rw [← z2]
                exact hY
            · refine And.intro (Or.inr rfl) ?_
              refine And.intro (zRb rfl) (zbf rfl ?_)
              refine And.intro (zDX hD 0 rfl) (fun v43 e43 r43 => ?_)
              refine And.intro (zDX hD 0 rfl) ⟨_, (zWi (by omega)), ?_⟩
              refine And.intro (zDX hD 0 rfl) ⟨_, sn_S_at3.up (by decide), ?_⟩
              refine ⟨_, n, e, (y.2.1 + 1), rfl, hS, hR, hD, (by first | exact hk | (clear hQ; grind [xu])), (zEt_fr hE_1 (fun c j h => zxcj (by omega) rfl)), (eTx_lt hE2 (by omega)), (Eq.trans (b := ((v43 + 1) : Int)) zxe (by omega)), (zxs (by omega) (by omega)), ?_⟩
              intro I53o p53hR p53bfr
              refine ⟨((401 - (m + 1)), 0, 0), zlt6 (by omega), [some (zvr (k)), some (zvi (0)), some (zvi ((m + 1)))], ⟨rfl, rfl, rfl, rfl⟩, (m + 1), (exO e y ((exAt e 3) (y.2.1 + 1))), rfl, rfl, rfl, rfl, rfl, rfl, (by omega), (zEr_O p53hR), (exO_ok hyok (by omega) (exAt_ok hE2 (eTx_lt hE2 (by omega)))), (by have z1 : 400 - m = (400 - (m + 1)) + 1 := (by omega); rw [z1, exLp_1 ⟨by omega, by omega⟩] at hrest; exact hrest), (fun c j h0 h1 => ((p53bfr c j h0 h1).trans (zxcj h0 ((fr c j h0 h1).trans rfl))))⟩
        · refine And.intro (zDX hD 0 rfl) (fun v10_26 e10_26 r10_26 => ?_)
          refine And.intro (zDX hD 0 rfl) ⟨_, sn_S_let.up (by decide), ?_⟩
          refine ⟨_, n, e, (v10_26 : Int), y.2.1, rfl, hS, hR, hD, (by first | exact hk | (clear hQ; grind [xu])), hE_1, (by omega), ?_⟩
          intro v13_26o p13_26hv p13_26bhv2
          refine And.intro ⟨(by omega), (zRb rfl)⟩ ⟨fun h17_26 => ?_, fun h17_26 => ?_⟩
          · refine And.intro (Or.inl rfl) ?_
            refine And.intro (zRb rfl) (zbf rfl ?_)
            refine And.intro (zDX hD 0 rfl) (Exists.intro _ (And.intro (zinl_ok (zT8_8 22)) (And.intro rfl ?_)))
            refine And.intro (zDX hD 0 rfl) (fun v1_35 e1_35 r1_35 => ?_)
            refine And.intro ⟨r1_35, (zRb rfl)⟩ ⟨fun h5_35 => ?_, fun h5_35 => ?_⟩
            · refine And.intro (Or.inl rfl) ?_
              refine And.intro (zRb rfl) (zbt rfl ?_)
              refine hQ _ ?_ (fun c j h0 h1 => ((fr c j h0 h1).trans rfl))
              · have z2 : y = exPr e (exAt e 3) p := by
                  first
                  | (rw [exLp_0 (fun q => by omega)] at hrest
                     exact hrest)
                  | (have z1 : 400 - m = 0 := (by omega)
                     rw [z1] at hrest
                     exact hrest)
                rw [← z2]
                exact hY
            · refine And.intro (zDX hD 0 rfl) (fun v10_35 e10_35 r10_35 => ?_)
              refine And.intro (zDX hD 0 rfl) ⟨_, sn_S_let.up (by decide), ?_⟩
              refine ⟨_, n, e, (v10_35 : Int), y.2.1, rfl, hS, hR, hD, (by first | exact hk | (clear hQ; grind [xu])), hE_1, (by omega), ?_⟩
              intro v13_35o p13_35hv p13_35bhv2
              refine And.intro ⟨(by omega), (zRb rfl)⟩ ⟨fun h17_35 => ?_, fun h17_35 => ?_⟩
              · refine And.intro (Or.inl rfl) ?_
                refine And.intro (zRb rfl) (zbt rfl ?_)
                refine hQ _ ?_ (fun c j h0 h1 => ((fr c j h0 h1).trans rfl))
                · have z2 : y = exPr e (exAt e 3) p := by
                    first
                    | (rw [exLp_0 (fun q => by omega)] at hrest
                       exact hrest)
                    | (have z1 : 400 - m = 0 := (by omega)
                       rw [z1] at hrest
                       exact hrest)
                  rw [← z2]
                  exact hY
              · refine And.intro (Or.inr rfl) ?_
                refine And.intro (zRb rfl) (zbf rfl ?_)
                refine And.intro (zDX hD 0 rfl) (fun v43 e43 r43 => ?_)
                refine And.intro (zDX hD 0 rfl) ⟨_, (zWi (by omega)), ?_⟩
                refine And.intro (zDX hD 0 rfl) ⟨_, sn_S_at3.up (by decide), ?_⟩
                refine ⟨_, n, e, (y.2.1 + 1), rfl, hS, hR, hD, (by first | exact hk | (clear hQ; grind [xu])), (zEt_fr hE_1 (fun c j h => zxcj (by omega) rfl)), (eTx_lt hE2 (by omega)), (Eq.trans (b := ((v43 + 1) : Int)) zxe (by omega)), (zxs (by omega) (by omega)), ?_⟩
                intro I53o p53hR p53bfr
                refine ⟨((401 - (m + 1)), 0, 0), zlt6 (by omega), [some (zvr (k)), some (zvi (0)), some (zvi ((m + 1)))], ⟨rfl, rfl, rfl, rfl⟩, (m + 1), (exO e y ((exAt e 3) (y.2.1 + 1))), rfl, rfl, rfl, rfl, rfl, rfl, (by omega), (zEr_O p53hR), (exO_ok hyok (by omega) (exAt_ok hE2 (eTx_lt hE2 (by omega)))), (by have z1 : 400 - m = (400 - (m + 1)) + 1 := (by omega); rw [z1, exLp_1 ⟨by omega, by omega⟩] at hrest; exact hrest), (fun c j h0 h1 => ((p53bfr c j h0 h1).trans (zxcj h0 ((fr c j h0 h1).trans rfl))))⟩
          · refine And.intro (Or.inr rfl) ?_
            refine And.intro (zRb rfl) (zbt rfl ?_)
            refine And.intro (zDX hD 0 rfl) (fun v43 e43 r43 => ?_)
            refine And.intro (zDX hD 0 rfl) ⟨_, (zWi (by omega)), ?_⟩
            refine And.intro (zDX hD 0 rfl) ⟨_, sn_S_at3.up (by decide), ?_⟩
            refine ⟨_, n, e, (y.2.1 + 1), rfl, hS, hR, hD, (by first | exact hk | (clear hQ; grind [xu])), (zEt_fr hE_1 (fun c j h => zxcj (by omega) rfl)), (eTx_lt hE2 (by omega)), (Eq.trans (b := ((v43 + 1) : Int)) zxe (by omega)), (zxs (by omega) (by omega)), ?_⟩
            intro I53o p53hR p53bfr
            refine ⟨((401 - (m + 1)), 0, 0), zlt6 (by omega), [some (zvr (k)), some (zvi (0)), some (zvi ((m + 1)))], ⟨rfl, rfl, rfl, rfl⟩, (m + 1), (exO e y ((exAt e 3) (y.2.1 + 1))), rfl, rfl, rfl, rfl, rfl, rfl, (by omega), (zEr_O p53hR), (exO_ok hyok (by omega) (exAt_ok hE2 (eTx_lt hE2 (by omega)))), (by have z1 : 400 - m = (400 - (m + 1)) + 1 := (by omega); rw [z1, exLp_1 ⟨by omega, by omega⟩] at hrest; exact hrest), (fun c j h0 h1 => ((p53bfr c j h0 h1).trans (zxcj h0 ((fr c j h0 h1).trans rfl))))⟩
      · refine And.intro (zDX hD 0 rfl) (fun v10_17 e10_17 r10_17 => ?_)
        refine And.intro (zDX hD 0 rfl) ⟨_, sn_S_let.up (by decide), ?_⟩
        refine ⟨_, n, e, (v10_17 : Int), y.2.1, rfl, hS, hR, hD, (by first | exact hk | (clear hQ; grind [xu])), hE_1, (by omega), ?_⟩
        intro v13_17o p13_17hv p13_17bhv2
        refine And.intro ⟨(by omega), (zRb rfl)⟩ ⟨fun h17_17 => ?_, fun h17_17 => ?_⟩
        · refine And.intro (Or.inl rfl) ?_
          refine And.intro (zRb rfl) (zbf rfl ?_)
          refine And.intro (zDX hD 0 rfl) (Exists.intro _ (And.intro (zinl_ok (zT8_8 22)) (And.intro rfl ?_)))
          refine And.intro (zDX hD 0 rfl) (fun v1_26 e1_26 r1_26 => ?_)
          refine And.intro ⟨r1_26, (zRb rfl)⟩ ⟨fun h5_26 => ?_, fun h5_26 => ?_⟩
          · refine And.intro (Or.inl rfl) ?_
            refine And.intro (zRb rfl) (zbf rfl ?_)
            refine And.intro (zDX hD 0 rfl) (Exists.intro _ (And.intro (zinl_ok (zT8_8 22)) (And.intro rfl ?_)))
            refine And.intro (zDX hD 0 rfl) (fun v1_35 e1_35 r1_35 => ?_)
            refine And.intro ⟨r1_35, (zRb rfl)⟩ ⟨fun h5_35 => ?_, fun h5_35 => ?_⟩
            · refine And.intro (Or.inl rfl) ?_
              refine And.intro (zRb rfl) (zbt rfl ?_)
              refine hQ _ ?_ (fun c j h0 h1 => ((fr c j h0 h1).trans rfl))
              · have z2 : y = exPr e (exAt e 3) p := by
                  first
                  | (rw [exLp_0 (fun q => by omega)] at hrest
                     exact hrest)
                  | (have z1 : 400 - m = 0 := (by omega)
                     rw [z1] at hrest
                     exact hrest)
                rw [← z2]
                exact hY
            · refine And.intro (zDX hD 0 rfl) (fun v10_35 e10_35 r10_35 => ?_)
              refine And.intro (zDX hD 0 rfl) ⟨_, sn_S_let.up (by decide), ?_⟩
              refine ⟨_, n, e, (v10_35 : Int), y.2.1, rfl, hS, hR, hD, (by first | exact hk | (clear hQ; grind [xu])), hE_1, (by omega), ?_⟩
              intro v13_35o p13_35hv p13_35bhv2
              refine And.intro ⟨(by omega), (zRb rfl)⟩ ⟨fun h17_35 => ?_, fun h17_35 => ?_⟩
              · refine And.intro (Or.inl rfl) ?_
                refine And.intro (zRb rfl) (zbt rfl ?_)
                refine hQ _ ?_ (fun c j h0 h1 => ((fr c j h0 h1).trans rfl))
                · have z2 : y = exPr e (exAt e 3) p := by
                    first
                    | (rw [exLp_0 (fun q => by omega)] at hrest
                       exact hrest)
                    | (have z1 : 400 - m = 0 := (by omega)
                       rw [z1] at hrest
                       exact hrest)
                  rw [← z2]
                  exact hY
              · refine And.intro (Or.inr rfl) ?_
                refine And.intro (zRb rfl) (zbf rfl ?_)
                refine And.intro (zDX hD 0 rfl) (fun v43 e43 r43 => ?_)
                refine And.intro (zDX hD 0 rfl) ⟨_, (zWi (by omega)), ?_⟩
                refine And.intro (zDX hD 0 rfl) ⟨_, sn_S_at3.up (by decide), ?_⟩
                refine ⟨_, n, e, (y.2.1 + 1), rfl, hS, hR, hD, (by first | exact hk | (clear hQ; grind [xu])), (zEt_fr hE_1 (fun c j h => zxcj (by omega) rfl)), (eTx_lt hE2 (by omega)), (Eq.trans (b := ((v43 + 1) : Int)) zxe (by omega)), (zxs (by omega) (by omega)), ?_⟩
                intro I53o p53hR p53bfr
                refine ⟨((401 - (m + 1)), 0, 0), zlt6 (by omega), [some (zvr (k)), some (zvi (0)), some (zvi ((m + 1)))], ⟨rfl, rfl, rfl, rfl⟩, (m + 1), (exO e y ((exAt e 3) (y.2.1 + 1))), rfl, rfl, rfl, rfl, rfl, rfl, (by omega), (zEr_O p53hR), (exO_ok hyok (by omega) (exAt_ok hE2 (eTx_lt hE2 (by omega)))), (by have z1 : 400 - m = (400 - (m + 1)) + 1 := (by omega); rw [z1, exLp_1 ⟨by omega, by omega⟩] at hrest; exact hrest), (fun c j h0 h1 => ((p53bfr c j h0 h1).trans (zxcj h0 ((fr c j h0 h1).trans rfl))))⟩
          · refine And.intro (zDX hD 0 rfl) (fun v10_26 e10_26 r10_26 => ?_)
            refine And.intro (zDX hD 0 rfl) ⟨_, sn_S_let.up (by decide), ?_⟩
            refine ⟨_, n, e, (v10_26 : Int), y.2.1, rfl, hS, hR, hD, (by first | exact hk | (clear hQ; grind [xu])), hE_1, (by omega), ?_⟩
            intro v13_26o p13_26hv p13_26bhv2
            refine And.intro ⟨(by omega), (zRb rfl)⟩ ⟨fun h17_26 => ?_, fun h17_26 => ?_⟩
            · refine And.intro (Or.inl rfl) ?_
              refine And.intro (zRb rfl) (zbf rfl ?_)
              refine And.intro (zDX hD 0 rfl) (Exists.intro _ (And.intro (zinl_ok (zT8_8 22)) (And.intro rfl ?_)))
              refine And.intro (zDX hD 0 rfl) (fun v1_35 e1_35 r1_35 => ?_)
              refine And.intro ⟨r1_35, (zRb rfl)⟩ ⟨fun h5_35 => ?_, fun h5_35 => ?_⟩
              · refine And.intro (Or.inl rfl) ?_
                refine And.intro (zRb rfl) (zbt rfl ?_)
                refine hQ _ ?_ (fun c j h0 h1 => ((fr c j h0 h1).trans rfl))
                · have z2 : y = exPr e (exAt e 3) p := by
                    first
                    | (rw [exLp_0 (fun q => by omega)] at hrest
                       exact hrest)
                    | (have z1 : 400 - m = 0 := (by omega)
                       rw [z1] at hrest
                       exact hrest)
                  rw [← z2]
                  exact hY
              · refine And.intro (zDX hD 0 rfl) (fun v10_35 e10_35 r10_35 => ?_)
                refine And.intro (zDX hD 0 rfl) ⟨_, sn_S_let.up (by decide), ?_⟩
                refine ⟨_, n, e, (v10_35 : Int), y.2.1, rfl, hS, hR, hD, (by first | exact hk | (clear hQ; grind [xu])), hE_1, (by omega), ?_⟩
                intro v13_35o p13_35hv p13_35bhv2
                refine And.intro ⟨(by omega), (zRb rfl)⟩ ⟨fun h17_35 => ?_, fun h17_35 => ?_⟩
                · refine And.intro (Or.inl rfl) ?_
                  refine And.intro (zRb rfl) (zbt rfl ?_)
                  refine hQ _ ?_ (fun c j h0 h1 => ((fr c j h0 h1).trans rfl))
                  · have z2 : y = exPr e (exAt e 3) p := by
                      first
                      | (rw [exLp_0 (fun q => by omega)] at hrest
                         exact hrest)
                      | (have z1 : 400 - m = 0 := (by omega)
                         rw [z1] at hrest
                         exact hrest)
                    rw [← z2]
                    exact hY
                · refine And.intro (Or.inr rfl) ?_
                  refine And.intro (zRb rfl) (zbf rfl ?_)
                  refine And.intro (zDX hD 0 rfl) (fun v43 e43 r43 => ?_)
                  refine And.intro (zDX hD 0 rfl) ⟨_, (zWi (by omega)), ?_⟩
                  refine And.intro (zDX hD 0 rfl) ⟨_, sn_S_at3.up (by decide), ?_⟩
                  refine ⟨_, n, e, (y.2.1 + 1), rfl, hS, hR, hD, (by first | exact hk | (clear hQ; grind [xu])), (zEt_fr hE_1 (fun c j h => zxcj (by omega) rfl)), (eTx_lt hE2 (by omega)), (Eq.trans (b := ((v43 + 1) : Int)) zxe (by omega)), (zxs (by omega) (by omega)), ?_⟩
                  intro I53o p53hR p53bfr
                  refine ⟨((401 - (m + 1)), 0, 0), zlt6 (by omega), [some (zvr (k)), some (zvi (0)), some (zvi ((m + 1)))], ⟨rfl, rfl, rfl, rfl⟩, (m + 1), (exO e y ((exAt e 3) (y.2.1 + 1))), rfl, rfl, rfl, rfl, rfl, rfl, (by omega), (zEr_O p53hR), (exO_ok hyok (by omega) (exAt_ok hE2 (eTx_lt hE2 (by omega)))), (by have z1 : 400 - m = (400 - (m + 1)) + 1 := (by omega); rw [z1, exLp_1 ⟨by omega, by omega⟩] at hrest; exact hrest), (fun c j h0 h1 => ((p53bfr c j h0 h1).trans (zxcj h0 ((fr c j h0 h1).trans rfl))))⟩
            · refine And.intro (Or.inr rfl) ?_
              refine And.intro (zRb rfl) (zbt rfl ?_)
              refine And.intro (zDX hD 0 rfl) (fun v43 e43 r43 => ?_)
              refine And.intro (zDX hD 0 rfl) ⟨_, (zWi (by omega)), ?_⟩
              refine And.intro (zDX hD 0 rfl) ⟨_, sn_S_at3.up (by decide), ?_⟩
              refine ⟨_, n, e, (y.2.1 + 1), rfl, hS, hR, hD, (by first | exact hk | (clear hQ; grind [xu])), (zEt_fr hE_1 (fun c j h => zxcj (by omega) rfl)), (eTx_lt hE2 (by omega)), (Eq.trans (b := ((v43 + 1) : Int)) zxe (by omega)), (zxs (by omega) (by omega)), ?_⟩
              intro I53o p53hR p53bfr
              refine ⟨((401 - (m + 1)), 0, 0), zlt6 (by omega), [some (zvr (k)), some (zvi (0)), some (zvi ((m + 1)))], ⟨rfl, rfl, rfl, rfl⟩, (m + 1), (exO e y ((exAt e 3) (y.2.1 + 1))), rfl, rfl, rfl, rfl, rfl, rfl, (by omega), (zEr_O p53hR), (exO_ok hyok (by omega) (exAt_ok hE2 (eTx_lt hE2 (by omega)))), (by have z1 : 400 - m = (400 - (m + 1)) + 1 := (by omega); rw [z1, exLp_1 ⟨by omega, by omega⟩] at hrest; exact hrest), (fun c j h0 h1 => ((p53bfr c j h0 h1).trans (zxcj h0 ((fr c j h0 h1).trans rfl))))⟩
        · refine And.intro (Or.inr rfl) ?_
          refine And.intro (zRb rfl) (zbt rfl ?_)
          refine And.intro (zDX hD 0 rfl) (fun v43 e43 r43 => ?_)
          refine And.intro (zDX hD 0 rfl) ⟨_, (zWi (by omega)), ?_⟩
          refine And.intro (zDX hD 0 rfl) ⟨_, sn_S_at3.up (by decide), ?_⟩
          refine ⟨_, n, e, (y.2.1 + 1), rfl, hS, hR, hD, (by first | exact hk | (clear hQ; grind [xu])), (zEt_fr hE_1 (fun c j h => zxcj (by omega) rfl)), (eTx_lt hE2 (by omega)), (Eq.trans (b := ((v43 + 1) : Int)) zxe (by omega)), (zxs (by omega) (by omega)), ?_⟩
          intro I53o p53hR p53bfr
          refine ⟨((401 - (m + 1)), 0, 0), zlt6 (by omega), [some (zvr (k)), some (zvi (0)), some (zvi ((m + 1)))], ⟨rfl, rfl, rfl, rfl⟩, (m + 1), (exO e y ((exAt e 3) (y.2.1 + 1))), rfl, rfl, rfl, rfl, rfl, rfl, (by omega), (zEr_O p53hR), (exO_ok hyok (by omega) (exAt_ok hE2 (eTx_lt hE2 (by omega)))), (by have z1 : 400 - m = (400 - (m + 1)) + 1 := (by omega); rw [z1, exLp_1 ⟨by omega, by omega⟩] at hrest; exact hrest), (fun c j h0 h1 => ((p53bfr c j h0 h1).trans (zxcj h0 ((fr c j h0 h1).trans rfl))))⟩)
def T_S_sm3 : ZT := fun args I L R S Q => ∃ (k : Nat) (n : Nat) (e : Nat → Int) (p : Nat), args = [zvr k, zvi 0] ∧ (zSh S) ∧ (zRs R) ∧ (zDy zT8 zF8 k R S) ∧ (k = 130 ∨ k = 134) ∧ (zEt k n e I) ∧ (p ≤ n) ∧ (I k 2 = p) ∧ (I k 3 = -1) ∧ ∀ (I' : ZI), (zEr k 405 (exSm e (exAt e 3) p) I') → (∀ c j : Nat, ¬ (c = k ∧ j = 2) → ¬ (c = k ∧ j = 3) → I' c j = I c j) → Q none I' L R S
theorem sn_S_sm3 : ZSnd 25 8 21 T_S_sm3 := ZSnd.loops (zT8_21 24) (by
  rintro args I L R S Q hz ⟨k, n, e, p, rfl, hS, hR, hD, hk, hE, hp, h2, h3, hQ⟩
  have hk130 : 130 ≤ k := by omega
  have hk134 : k ≤ 134 := by omega
  obtain ⟨hE1, hE2, hE3⟩ := id hE
  have hn4 := hE2.1
  refine ⟨[7], fun nM tM lsM stM I1 L1 R1 S1 => match tM with
      | 7 => ∃ (m : Nat) (y : ExR), nM = ((401 - m), 0, 0) ∧ lsM = [some (zvr (k)), some (zvi (0)), some (zvi (m))] ∧ stM = [] ∧ L1 = L ∧ R1 = R ∧ S1 = S ∧ (m ≤ 400) ∧ (zEr k 405 y I1) ∧ (exOk n p y) ∧ (exLp e 43 45 45 (exPr e (exAt e 3)) (400 - m) y = exSm e (exAt e 3) p) ∧ (∀ c j : Nat, ¬ (c = k ∧ j = 2) → ¬ (c = k ∧ j = 3) → I1 c j = I c j)
      | _ => False, rfl, ?_, ⟨?_, True.intro⟩⟩
  · refine And.intro (zDX hD 0 rfl) ⟨_, sn_S_pr3.up (by decide), ?_⟩
    refine ⟨_, n, e, p, rfl, hS, hR, hD, (by first | exact hk | (clear hQ; grind [xu])), hE, (by omega), h2, (Eq.trans (b := ((-1) : Int)) h3 (by omega)), ?_⟩
    intro I2o p2hR p2bfr
    refine ⟨((401 - (0 : Nat)), 0, 0), [some (zvr (k)), some (zvi (0)), some (zvi ((0 : Nat)))], ⟨rfl, rfl, rfl, rfl⟩, 0, ((exPr e (exAt e 3)) p), rfl, rfl, rfl, rfl, rfl, rfl, (by omega), p2hR, (exPr_ok hE2 (fun _ hq => exAt_ok hE2 hq) hp), rfl, (fun c j h0 h1 => ((p2bfr c j h0 h1).trans rfl))⟩
  · rintro nM lsM stM I1 L1 R1 S1 hz1 ⟨m, y, rfl, rfl, rfl, rfl, rfl, rfl, hm, hY, hyok, hrest, fr⟩
    have hE_1 : zEt k n e I1 := zEt_fr hE (fun c j h => fr c j (by omega) (by omega))
    have hYd : (y.1 = 1 ∧ I1 k 2 = y.2.1 ∧ I1 k 3 = -1) ∨ (y.1 = 0 ∧ I1 k 3 = y.2.1 ∧ 0 ≤ I1 k 2 ∧ I1 k 2 ≤ 405) := hY
    have hYo : (y.1 = 1 ∧ p < y.2.1 ∧ y.2.1 ≤ n) ∨ (y.1 = 0 ∧ y.2.1 ≤ n) := hyok
    have hE11 : I1 k 1 = n := hE_1.1
    have hb8 := hE2.2.2 y.2.1
    refine And.intro ⟨(by omega), (zRb rfl)⟩ ⟨fun h11 => ?_, fun h11 => ?_⟩
    · refine hQ _ ?_ (fun c j h0 h1 => ((fr c j h0 h1).trans rfl))
      · have z2 : y = exSm e (exAt e 3) p := by
          first
          | (rw [exLp_0 (fun q => by omega)] at hrest
             exact hrest)
          | (have z1 : 400 - m = 0 := (by omega)
             rw [z1] at hrest
             exact hrest)
        rw [← z2]
        exact hY
    · refine And.intro (zDX hD 0 rfl) (Exists.intro _ (And.intro (zinl_ok (zT8_8 23)) (And.intro rfl ?_)))
      refine And.intro (zDX hD 0 rfl) (fun v1_17 e1_17 r1_17 => ?_)
      refine And.intro ⟨r1_17, (zRb rfl)⟩ ⟨fun h5_17 => ?_, fun h5_17 => ?_⟩
      · refine And.intro (Or.inl rfl) ?_
        refine And.intro (zRb rfl) (zbf rfl ?_)
        refine And.intro (zDX hD 0 rfl) (Exists.intro _ (And.intro (zinl_ok (zT8_8 23)) (And.intro rfl ?_)))
        refine And.intro (zDX hD 0 rfl) (fun v1_26 e1_26 r1_26 => ?_)
        refine And.intro ⟨r1_26, (zRb rfl)⟩ ⟨fun h5_26 => ?_, fun h5_26 => ?_⟩
        · refine And.intro (Or.inl rfl) ?_
          refine And.intro (zRb rfl) (zbt rfl ?_)
          refine hQ _ ?_ (fun c j h0 h1 => ((fr c j h0 h1).trans rfl))
          · have z2 : y = exSm e (exAt e 3) p := by
              first
              | (rw [exLp_0 (fun q => by omega)] at hrest
                 exact hrest)
              | (have z1 : 400 - m = 0 := (by omega)
                 rw [z1] at hrest
                 exact hrest)
            rw [← z2]
            exact hY
        · refine And.intro (zDX hD 0 rfl) (fun v10_26 e10_26 r10_26 => ?_)
          refine And.intro (zDX hD 0 rfl) ⟨_, sn_S_let.up (by decide), ?_⟩
          refine ⟨_, n, e, (v10_26 : Int), y.2.1, rfl, hS, hR, hD, (by first | exact hk | (clear hQ; grind [xu])), hE_1, (by omega), ?_⟩
          intro v13_26o p13_26hv p13_26bhv2
          refine And.intro ⟨(by omega), (zRb rfl)⟩ ⟨fun h17_26 => ?_, fun h17_26 => ?_⟩
          · refine And.intro (Or.inl rfl) ?_
            refine And.intro (zRb rfl) (zbt rfl ?_)
            refine hQ _ ?_ (fun c j h0 h1 => ((fr c j h0 h1).trans rfl))
            · have z2 : y = exSm e (exAt e 3) p := by
                first
                | (rw [exLp_0 (fun q => by omega)] at hrest
                   exact hrest)
                | (have z1 : 400 - m = 0 := (by omega)
                   rw [z1] at hrest
                   exact hrest)
              rw [← z2]
              exact hY
          · refine And.intro (Or.inr rfl) ?_
            refine And.intro (zRb rfl) (zbf rfl ?_)
            refine And.intro (zDX hD 0 rfl) (fun v34 e34 r34 => ?_)
            refine And.intro (zDX hD 0 rfl) ⟨_, (zWi (by omega)), ?_⟩
            refine And.intro (zDX hD 0 rfl) ⟨_, sn_S_pr3.up (by decide), ?_⟩
            refine ⟨_, n, e, (y.2.1 + 1), rfl, hS, hR, hD, (by first | exact hk | (clear hQ; grind [xu])), (zEt_fr hE_1 (fun c j h => zxcj (by omega) rfl)), (eTx_lt hE2 (by omega)), (Eq.trans (b := ((v34 + 1) : Int)) zxe (by omega)), (zxs (by omega) (by omega)), ?_⟩
            intro I44o p44hR p44bfr
            refine ⟨((401 - (m + 1)), 0, 0), zlt6 (by omega), [some (zvr (k)), some (zvi (0)), some (zvi ((m + 1)))], ⟨rfl, rfl, rfl, rfl⟩, (m + 1), (exO e y ((exPr e (exAt e 3)) (y.2.1 + 1))), rfl, rfl, rfl, rfl, rfl, rfl, (by omega), (zEr_O p44hR), (exO_ok hyok (by omega) (exPr_ok hE2 (fun _ hq => exAt_ok hE2 hq) (eTx_lt hE2 (by omega)))), (by have z1 : 400 - m = (400 - (m + 1)) + 1 := (by omega); rw [z1, exLp_1 ⟨by omega, by omega⟩] at hrest; exact hrest), (fun c j h0 h1 => ((p44bfr c j h0 h1).trans (zxcj h0 ((fr c j h0 h1).trans rfl))))⟩
      · refine And.intro (zDX hD 0 rfl) (fun v10_17 e10_17 r10_17 => ?_)
        refine And.intro (zDX hD 0 rfl) ⟨_, sn_S_let.up (by decide), ?_⟩
        refine ⟨_, n, e, (v10_17 : Int), y.2.1, rfl, hS, hR, hD, (by first | exact hk | (clear hQ; grind [xu])), hE_1, (by omega), ?_⟩
        intro v13_17o p13_17hv p13_17bhv2
        refine And.intro ⟨(by omega), (zRb rfl)⟩ ⟨fun h17_17 => ?_, fun h17_17 => ?_⟩
        · refine And.intro (Or.inl rfl) ?_
          refine And.intro (zRb rfl) (zbf rfl ?_)
          refine And.intro (zDX hD 0 rfl) (Exists.intro _ (And.intro (zinl_ok (zT8_8 23)) (And.intro rfl ?_)))
          refine And.intro (zDX hD 0 rfl) (fun v1_26 e1_26 r1_26 => ?_)
          refine And.intro ⟨r1_26, (zRb rfl)⟩ ⟨fun h5_26 => ?_, fun h5_26 => ?_⟩
          · refine And.intro (Or.inl rfl) ?_
            refine And.intro (zRb rfl) (zbt rfl ?_)
            refine hQ _ ?_ (fun c j h0 h1 => ((fr c j h0 h1).trans rfl))
            · have z2 : y = exSm e (exAt e 3) p := by
                first
                | (rw [exLp_0 (fun q => by omega)] at hrest
                   exact hrest)
                | (have z1 : 400 - m = 0 := (by omega)
                   rw [z1] at hrest
                   exact hrest)
              rw [← z2]
              exact hY
          · refine And.intro (zDX hD 0 rfl) (fun v10_26 e10_26 r10_26 => ?_)
            refine And.intro (zDX hD 0 rfl) ⟨_, sn_S_let.up (by decide), ?_⟩
            refine ⟨_, n, e, (v10_26 : Int), y.2.1, rfl, hS, hR, hD, (by first | exact hk | (clear hQ; grind [xu])), hE_1, (by omega), ?_⟩
            intro v13_26o p13_26hv p13_26bhv2
            refine And.intro ⟨(by omega), (zRb rfl)⟩ ⟨fun h17_26 => ?_, fun h17_26 => ?_⟩
            · refine And.intro (Or.inl rfl) ?_
              refine And.intro (zRb rfl) (zbt rfl ?_)
              refine hQ _ ?_ (fun c j h0 h1 => ((fr c j h0 h1).trans rfl))
              · have z2 : y = exSm e (exAt e 3) p := by
                  first
                  | (rw [exLp_0 (fun q => by omega)] at hrest
                     exact hrest)
                  | (have z1 : 400 - m = 0 := (by omega)
                     rw [z1] at hrest
                     exact hrest)
                rw [← z2]
                exact hY
            · refine And.intro (Or.inr rfl) ?_
              refine And.intro (zRb rfl) (zbf rfl ?_)
              refine And.intro (zDX hD 0 rfl) (fun v34 e34 r34 => ?_)
              refine And.intro (zDX hD 0 rfl) ⟨_, (zWi (by omega)), ?_⟩
              refine And.intro (zDX hD 0 rfl) ⟨_, sn_S_pr3.up (by decide), ?_⟩
              refine ⟨_, n, e, (y.2.1 + 1), rfl, hS, hR, hD, (by first | exact hk | (clear hQ; grind [xu])), (zEt_fr hE_1 (fun c j h => zxcj (by omega) rfl)), (eTx_lt hE2 (by omega)), (Eq.trans (b := ((v34 + 1) : Int)) zxe (by omega)), (zxs (by omega) (by omega)), ?_⟩
              intro I44o p44hR p44bfr
              refine ⟨((401 - (m + 1)), 0, 0), zlt6 (by omega), [some (zvr (k)), some (zvi (0)), some (zvi ((m + 1)))], ⟨rfl, rfl, rfl, rfl⟩, (m + 1), (exO e y ((exPr e (exAt e 3)) (y.2.1 + 1))), rfl, rfl, rfl, rfl, rfl, rfl, (by omega), (zEr_O p44hR), (exO_ok hyok (by omega) (exPr_ok hE2 (fun _ hq => exAt_ok hE2 hq) (eTx_lt hE2 (by omega)))), (by have z1 : 400 - m = (400 - (m + 1)) + 1 := (by omega); rw [z1, exLp_1 ⟨by omega, by omega⟩] at hrest; exact hrest), (fun c j h0 h1 => ((p44bfr c j h0 h1).trans (zxcj h0 ((fr c j h0 h1).trans rfl))))⟩
        · refine And.intro (Or.inr rfl) ?_
          refine And.intro (zRb rfl) (zbt rfl ?_)
          refine And.intro (zDX hD 0 rfl) (fun v34 e34 r34 => ?_)
          refine And.intro (zDX hD 0 rfl) ⟨_, (zWi (by omega)), ?_⟩
          refine And.intro (zDX hD 0 rfl) ⟨_, sn_S_pr3.up (by decide), ?_⟩
          refine ⟨_, n, e, (y.2.1 + 1), rfl, hS, hR, hD, (by first | exact hk | (clear hQ; grind [xu])), (zEt_fr hE_1 (fun c j h => zxcj (by omega) rfl)), (eTx_lt hE2 (by omega)), (Eq.trans (b := ((v34 + 1) : Int)) zxe (by omega)), (zxs (by omega) (by omega)), ?_⟩
          intro I44o p44hR p44bfr
          refine ⟨((401 - (m + 1)), 0, 0), zlt6 (by omega), [some (zvr (k)), some (zvi (0)), some (zvi ((m + 1)))], ⟨rfl, rfl, rfl, rfl⟩, (m + 1), (exO e y ((exPr e (exAt e 3)) (y.2.1 + 1))), rfl, rfl, rfl, rfl, rfl, rfl, (by omega), (zEr_O p44hR), (exO_ok hyok (by omega) (exPr_ok hE2 (fun _ hq => exAt_ok hE2 hq) (eTx_lt hE2 (by omega)))), (by have z1 : 400 - m = (400 - (m + 1)) + 1 := (by omega); rw [z1, exLp_1 ⟨by omega, by omega⟩] at hrest; exact hrest), (fun c j h0 h1 => ((p44bfr c j h0 h1).trans (zxcj h0 ((fr c j h0 h1).trans rfl))))⟩)
def T_S_ex3 : ZT := fun args I L R S Q => ∃ (k : Nat) (n : Nat) (e : Nat → Int) (p : Nat), args = [zvr k, zvi 0] ∧ (zSh S) ∧ (zRs R) ∧ (zDy zT8 zF8 k R S) ∧ (k = 130 ∨ k = 134) ∧ (zEt k n e I) ∧ (p ≤ n) ∧ (I k 2 = p) ∧ (I k 3 = -1) ∧ ∀ (I' : ZI), (zEr k 405 (exEx e 3 p) I') → (∀ c j : Nat, ¬ (c = k ∧ j = 2) → ¬ (c = k ∧ j = 3) → I' c j = I c j) → Q none I' L R S
theorem sn_S_ex3 : ZSnd 26 8 15 T_S_ex3 := ZSnd.of (zT8_15 25) (by
  rintro args I L R S Q hz ⟨k, n, e, p, rfl, hS, hR, hD, hk, hE, hp, h2, h3, hQ⟩
  have hk130 : 130 ≤ k := by omega
  have hk134 : k ≤ 134 := by omega
  obtain ⟨hE1, hE2, hE3⟩ := id hE
  have hn4 := hE2.1
  obtain ⟨y, hy⟩ : ∃ y : ExR, y = exSm e (exAt e 3) p := ⟨_, rfl⟩
  have hyok : exOk n p y := (by rw [hy]; exact exSm_ok hE2 (fun _ hq => exAt_ok hE2 hq) hp)
  have hYo : (y.1 = 1 ∧ p < y.2.1 ∧ y.2.1 ≤ n) ∨ (y.1 = 0 ∧ y.2.1 ≤ n) := hyok
  have hb8 := hE2.2.2 y.2.1
  refine And.intro rfl ?_
  refine And.intro (zDX hD 0 rfl) ⟨_, sn_S_sm3.up (by decide), ?_⟩
  refine ⟨_, n, e, p, rfl, hS, hR, hD, (by first | exact hk | (clear hQ; grind [xu])), hE, (by omega), h2, (Eq.trans (b := ((-1) : Int)) h3 (by omega)), ?_⟩
  intro I2o p2hR p2bfr
  have g2 : zEr k 405 y I2o := (by rw [hy]; exact p2hR)
  have g2b : (y.1 = 1 ∧ I2o k 2 = y.2.1 ∧ I2o k 3 = -1) ∨ (y.1 = 0 ∧ I2o k 3 = y.2.1 ∧ 0 ≤ I2o k 2 ∧ I2o k 2 ≤ 405) := g2
  refine And.intro (zDX hD 0 rfl) (Exists.intro _ (And.intro (zinl_ok (zT8_8 24)) (And.intro rfl ?_)))
  refine And.intro (zDX hD 0 rfl) (fun v1_8 e1_8 r1_8 => ?_)
  refine And.intro ⟨r1_8, (zRb rfl)⟩ ⟨fun h5_8 => ?_, fun h5_8 => ?_⟩
  · refine And.intro (Or.inl rfl) ?_
    refine And.intro (zRb rfl) (zbf rfl ?_)
    refine And.intro (zDX hD 0 rfl) (Exists.intro _ (And.intro (zinl_ok (zT8_8 24)) (And.intro rfl ?_)))
    refine And.intro (zDX hD 0 rfl) (fun v1_17 e1_17 r1_17 => ?_)
    refine And.intro ⟨r1_17, (zRb rfl)⟩ ⟨fun h5_17 => ?_, fun h5_17 => ?_⟩
    · refine And.intro (Or.inl rfl) ?_
      refine And.intro (zRb rfl) (zbt rfl ?_)
      refine hQ _ ?_ (fun c j h0 h1 => ((p2bfr c j h0 h1).trans rfl))
      · unfold exEx exCm exC1
        rw [← hy]
        first
        | (rw [if_pos ⟨by omega, by omega⟩]; exact zEr_O p35hR)
        | (rw [if_neg (fun q => by omega)]; exact g2)
    · refine And.intro (zDX hD 0 rfl) (fun v10_17 e10_17 r10_17 => ?_)
      refine And.intro (zDX hD 0 rfl) ⟨_, sn_S_let.up (by decide), ?_⟩
      refine ⟨_, n, e, (v10_17 : Int), y.2.1, rfl, hS, hR, hD, (by first | exact hk | (clear hQ; grind [xu])), (zEt_fr hE (fun c j h => p2bfr c j (by omega) (by omega))), (by omega), ?_⟩
      intro v13_17o p13_17hv p13_17bhv2
      refine And.intro ⟨(by omega), (zRb rfl)⟩ ⟨fun h17_17 => ?_, fun h17_17 => ?_⟩
      · refine And.intro (Or.inl rfl) ?_
        refine And.intro (zRb rfl) (zbt rfl ?_)
        refine hQ _ ?_ (fun c j h0 h1 => ((p2bfr c j h0 h1).trans rfl))
        · unfold exEx exCm exC1
          rw [← hy]
          first
          | (rw [if_pos ⟨by omega, by omega⟩]; exact zEr_O p35hR)
          | (rw [if_neg (fun q => by omega)]; exact g2)
      · refine And.intro (Or.inr rfl) ?_
        refine And.intro (zRb rfl) (zbf rfl ?_)
        refine And.intro (zDX hD 0 rfl) (fun v25 e25 r25 => ?_)
        refine And.intro (zDX hD 0 rfl) ⟨_, (zWi (by omega)), ?_⟩
        refine And.intro (zDX hD 0 rfl) ⟨_, sn_S_sm3.up (by decide), ?_⟩
        refine ⟨_, n, e, (y.2.1 + 1), rfl, hS, hR, hD, (by first | exact hk | (clear hQ; grind [xu])), (zEt_fr hE (fun c j h => zxcj (by omega) (p2bfr c j (by omega) (by omega)))), (eTx_lt hE2 (by omega)), (Eq.trans (b := ((v25 + 1) : Int)) zxe (by omega)), (zxs (by omega) (by omega)), ?_⟩
        intro I35o p35hR p35bfr
        refine hQ _ ?_ (fun c j h0 h1 => ((p35bfr c j h0 h1).trans (zxcj h0 ((p2bfr c j h0 h1).trans rfl))))
        · unfold exEx exCm exC1
          rw [← hy]
          first
          | (rw [if_pos ⟨by omega, by omega⟩]; exact zEr_O p35hR)
          | (rw [if_neg (fun q => by omega)]; exact g2)
  · refine And.intro (zDX hD 0 rfl) (fun v10_8 e10_8 r10_8 => ?_)
    refine And.intro (zDX hD 0 rfl) ⟨_, sn_S_let.up (by decide), ?_⟩
    refine ⟨_, n, e, (v10_8 : Int), y.2.1, rfl, hS, hR, hD, (by first | exact hk | (clear hQ; grind [xu])), (zEt_fr hE (fun c j h => p2bfr c j (by omega) (by omega))), (by omega), ?_⟩
    intro v13_8o p13_8hv p13_8bhv2
    refine And.intro ⟨(by omega), (zRb rfl)⟩ ⟨fun h17_8 => ?_, fun h17_8 => ?_⟩
    · refine And.intro (Or.inl rfl) ?_
      refine And.intro (zRb rfl) (zbf rfl ?_)
      refine And.intro (zDX hD 0 rfl) (Exists.intro _ (And.intro (zinl_ok (zT8_8 24)) (And.intro rfl ?_)))
      refine And.intro (zDX hD 0 rfl) (fun v1_17 e1_17 r1_17 => ?_)
      refine And.intro ⟨r1_17, (zRb rfl)⟩ ⟨fun h5_17 => ?_, fun h5_17 => ?_⟩
      · refine And.intro (Or.inl rfl) ?_
        refine And.intro (zRb rfl) (zbt rfl ?_)
        refine hQ _ ?_ (fun c j h0 h1 => ((p2bfr c j h0 h1).trans rfl))
        · unfold exEx exCm exC1
          rw [← hy]
          first
          | (rw [if_pos ⟨by omega, by omega⟩]; exact zEr_O p35hR)
          | (rw [if_neg (fun q => by omega)]; exact g2)
      · refine And.intro (zDX hD 0 rfl) (fun v10_17 e10_17 r10_17 => ?_)
        refine And.intro (zDX hD 0 rfl) ⟨_, sn_S_let.up (by decide), ?_⟩
        refine ⟨_, n, e, (v10_17 : Int), y.2.1, rfl, hS, hR, hD, (by first | exact hk | (clear hQ; grind [xu])), (zEt_fr hE (fun c j h => p2bfr c j (by omega) (by omega))), (by omega), ?_⟩
        intro v13_17o p13_17hv p13_17bhv2
        refine And.intro ⟨(by omega), (zRb rfl)⟩ ⟨fun h17_17 => ?_, fun h17_17 => ?_⟩
        · refine And.intro (Or.inl rfl) ?_
          refine And.intro (zRb rfl) (zbt rfl ?_)
          refine hQ _ ?_ (fun c j h0 h1 => ((p2bfr c j h0 h1).trans rfl))
          · unfold exEx exCm exC1
            rw [← hy]
            first
            | (rw [if_pos ⟨by omega, by omega⟩]; exact zEr_O p35hR)
            | (rw [if_neg (fun q => by omega)]; exact g2)
        · refine And.intro (Or.inr rfl) ?_
          refine And.intro (zRb rfl) (zbf rfl ?_)
          refine And.intro (zDX hD 0 rfl) (fun v25 e25 r25 => ?_)
          refine And.intro (zDX hD 0 rfl) ⟨_, (zWi (by omega)), ?_⟩
          refine And.intro (zDX hD 0 rfl) ⟨_, sn_S_sm3.up (by decide), ?_⟩
          refine ⟨_, n, e, (y.2.1 + 1), rfl, hS, hR, hD, (by first | exact hk | (clear hQ; grind [xu])), (zEt_fr hE (fun c j h => zxcj (by omega) (p2bfr c j (by omega) (by omega)))), (eTx_lt hE2 (by omega)), (Eq.trans (b := ((v25 + 1) : Int)) zxe (by omega)), (zxs (by omega) (by omega)), ?_⟩
          intro I35o p35hR p35bfr
          refine hQ _ ?_ (fun c j h0 h1 => ((p35bfr c j h0 h1).trans (zxcj h0 ((p2bfr c j h0 h1).trans rfl))))
          · unfold exEx exCm exC1
            rw [← hy]
            first
            | (rw [if_pos ⟨by omega, by omega⟩]; exact zEr_O p35hR)
            | (rw [if_neg (fun q => by omega)]; exact g2)
    · refine And.intro (Or.inr rfl) ?_
      refine And.intro (zRb rfl) (zbt rfl ?_)
      refine And.intro (zDX hD 0 rfl) (fun v25 e25 r25 => ?_)
      refine And.intro (zDX hD 0 rfl) ⟨_, (zWi (by omega)), ?_⟩
      refine And.intro (zDX hD 0 rfl) ⟨_, sn_S_sm3.up (by decide), ?_⟩
      refine ⟨_, n, e, (y.2.1 + 1), rfl, hS, hR, hD, (by first | exact hk | (clear hQ; grind [xu])), (zEt_fr hE (fun c j h => zxcj (by omega) (p2bfr c j (by omega) (by omega)))), (eTx_lt hE2 (by omega)), (Eq.trans (b := ((v25 + 1) : Int)) zxe (by omega)), (zxs (by omega) (by omega)), ?_⟩
      intro I35o p35hR p35bfr
      refine hQ _ ?_ (fun c j h0 h1 => ((p35bfr c j h0 h1).trans (zxcj h0 ((p2bfr c j h0 h1).trans rfl))))
      · unfold exEx exCm exC1
        rw [← hy]
        first
        | (rw [if_pos ⟨by omega, by omega⟩]; exact zEr_O p35hR)
        | (rw [if_neg (fun q => by omega)]; exact g2))
