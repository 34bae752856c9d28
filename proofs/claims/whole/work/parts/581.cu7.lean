/-! cu7 -/
def T_U_jmk : ZT := fun args I L R S Q => ∃ (k : Nat) (pc : Nat) (a : Int) (b : Int), args = [zvr k, zvi a, zvi b] ∧ (zSh S) ∧ (zRs R) ∧ (zDy zT1 zF1 k R S) ∧ (k = 106 ∨ k = 118) ∧ (I k 4 = pc) ∧ (pc ≤ 40) ∧ (r32 a ∧ r32 b) ∧ ∀ (I' : ZI), (∀ p : Nat, p < pc → I' (k + 9) p = if I (k + 9) p = b then a else I (k + 9) p) → (∀ c j : Nat, ¬ c = k + 9 → I' c j = I c j) → Q none I' L R S
theorem sn_U_jmk : ZSnd 1 1 35 T_U_jmk := ZSnd.loops (zT1_35 0) (by
  rintro args I L R S Q hz ⟨k, pc, a, b, rfl, hS, hR, hD, hk, hpc, hp40, hr, hQ⟩
  have hk106 : 106 ≤ k := by omega
  have hk118 : k ≤ 118 := by omega
  refine ⟨[2], fun nM tM lsM stM I1 L1 R1 S1 => match tM with
      | 2 => ∃ (m : Nat), nM = ((61 - m), 0, 0) ∧ lsM = [some (zvr (k)), some (zvi (a)), some (zvi (b)), some (zvi (m))] ∧ stM = [] ∧ L1 = L ∧ R1 = R ∧ S1 = S ∧ (m ≤ pc) ∧ (∀ p : Nat, p < m → I1 (k + 9) p = if I (k + 9) p = b then a else I (k + 9) p) ∧ (∀ p : Nat, m ≤ p → I1 (k + 9) p = I (k + 9) p) ∧ (∀ c j : Nat, ¬ c = k + 9 → I1 c j = I c j)
      | _ => False, rfl, ?_, ⟨?_, True.intro⟩⟩
  · refine ⟨((61 - (0 : Nat)), 0, 0), [some (zvr (k)), some (zvi (a)), some (zvi (b)), some (zvi ((0 : Nat)))], ⟨rfl, rfl, rfl, rfl, rfl⟩, 0, rfl, rfl, rfl, rfl, rfl, rfl, (by omega), (fun p h => absurd h (Nat.not_lt_zero p)), (fun p _ => rfl), (fun c j h0 => rfl)⟩
  · rintro nM lsM stM I1 L1 R1 S1 hz1 ⟨m, rfl, rfl, rfl, rfl, rfl, rfl, hm, hL1, hL2, fr⟩
    refine And.intro (zDX hD 0 rfl) (zrd (v := pc) ((fr k 4 (by omega)).trans hpc) ?_)
    refine And.intro ⟨(by omega), (by omega)⟩ ⟨fun h7 => ?_, fun h7 => ?_⟩
    · refine hQ _ (fun p hp => hL1 p (by omega)) (fun c j h0 => ((fr c j h0).trans rfl))
    · refine And.intro (zDX hD 0 rfl) (zrdR (v := some (k + 9)) (zDR hD 6 rfl) ?_)
      refine And.intro (zDP hD 9 rfl rfl (by omega) (by omega)) (fun v15 e15 r15 => ?_)
      have f15 : v15 = I (k + 9) m := (e15.trans ((congrArg (I1 (k + 9)) (by omega)).trans (hL2 m (Nat.le_refl m))))
      refine And.intro ⟨r15, (by omega)⟩ ⟨fun h17 => ?_, fun h17 => ?_⟩
      · refine ⟨((61 - (m + 1)), 0, 0), zlt6 (by omega), [some (zvr (k)), some (zvi (a)), some (zvi (b)), some (zvi ((m + 1)))], ⟨rfl, rfl, rfl, rfl, rfl⟩, (m + 1), rfl, rfl, rfl, rfl, rfl, rfl, (by omega), ?_, (fun p hp => by first | exact zxs (by omega) (hL2 p (by omega)) | exact hL2 p (by omega)), (fun c j h0 => ((fr c j h0).trans rfl))⟩
        · intro p hp
          by_cases e : p = m
          · subst e
            first
            | (rw [if_pos (by omega)]; exact zxe)
            | (rw [if_neg (by omega)]; exact hL2 p (Nat.le_refl p))
          · first
            | exact zxs (by omega) (hL1 p (by omega))
            | exact hL1 p (by omega)
      · refine And.intro (zDX hD 0 rfl) (zrdR (v := some (k + 9)) (zDR hD 6 rfl) ?_)
        refine And.intro ⟨(by show 40 ≤ _; omega), (zDP hD 9 rfl rfl (by omega) (by omega))⟩ ⟨_, (zWi (by omega)), ?_⟩
        refine ⟨((61 - (m + 1)), 0, 0), zlt6 (by omega), [some (zvr (k)), some (zvi (a)), some (zvi (b)), some (zvi ((m + 1)))], ⟨rfl, rfl, rfl, rfl, rfl⟩, (m + 1), rfl, rfl, rfl, rfl, rfl, rfl, (by omega), ?_, (fun p hp => by first | exact zxs (by omega) (hL2 p (by omega)) | exact hL2 p (by omega)), (fun c j h0 => (zxu h0 ((fr c j h0).trans rfl)))⟩
        · intro p hp
          by_cases e : p = m
          · subst e
            first
            | (rw [if_pos (by omega)]; exact zxe)
            | (rw [if_neg (by omega)]; exact hL2 p (Nat.le_refl p))
          · first
            | exact zxs (by omega) (hL1 p (by omega))
            | exact hL1 p (by omega))
def T_U_nrp : ZT := fun args I L R S Q => ∃ (k : Nat) (w : List CuR) (pc : Nat) (n : Int), args = [zvr k, zvi n] ∧ (zSh S) ∧ (zRs R) ∧ (zDy zT1 zF1 k R S) ∧ (k = 106 ∨ k = 118) ∧ (zUw k w I) ∧ (w.length ≤ 60) ∧ (cuG w) ∧ (I k 4 = pc) ∧ (cuPq w pc) ∧ (r32 n) ∧ ∀ (v : Int), (cuNx w pc n (I (k + 9)) v) → (v = -1 ∨ (0 ≤ v ∧ v < 3600)) → Q (some (zvi (v))) I L R S
theorem sn_U_nrp : ZSnd 4 1 38 T_U_nrp := ZSnd.loops (zT1_38 3) (by
  rintro args I L R S Q hz ⟨k, w, pc, n, rfl, hS, hR, hD, hk, hW, hl, hG, hpc, hpq, hn, hQ⟩
  have hk106 : 106 ≤ k := by omega
  have hk118 : k ≤ 118 := by omega
  have hT1 := zUw_T hW hl
  have hN := hT1.2.1
  obtain ⟨hp40, hpw, hp1⟩ := id hpq
  refine ⟨[7, 22], fun nM tM lsM stM I1 L1 R1 S1 => match tM with
      | 7 => ∃ (a : Nat) (r : Int) (le : Int), nM = ((61 - a), 100, 0) ∧ lsM = [some (zvr (k)), some (zvi (n)), some (zvi (r)), some (zvl (le)), none, some (zvi (a)), none, none] ∧ stM = [] ∧ I1 = I ∧ L1 = L ∧ R1 = R ∧ S1 = S ∧ (a ≤ pc) ∧ (cuNq w pc n (I (k + 9)) a (a + 1) r le) ∧ (-1 ≤ r ∧ r ≤ 3600)
      | 22 => ∃ (a : Nat) (b : Nat) (r : Int) (le : Int), nM = ((61 - a), (61 - b), 0) ∧ lsM = [some (zvr (k)), some (zvi (n)), some (zvi (r)), some (zvl (le)), none, some (zvi (a)), some (zvi (b)), none] ∧ stM = [] ∧ I1 = I ∧ L1 = L ∧ R1 = R ∧ S1 = S ∧ (a < pc) ∧ (a < b ∧ b ≤ pc) ∧ (cuNq w pc n (I (k + 9)) a b r le) ∧ (-1 ≤ r ∧ r ≤ 3600)
      | _ => False, rfl, ?_, ⟨?_, ?_, True.intro⟩⟩
  · refine ⟨((61 - (0 : Nat)), 100, 0), [some (zvr (k)), some (zvi (n)), some (zvi (((-1) : Int))), some (zvl ((0 : Int))), none, some (zvi ((0 : Nat))), none, none], ⟨rfl, rfl, (congrArg (fun z => some (zvi z)) (by omega)), rfl, rfl, rfl⟩, 0, (-1), 0, rfl, rfl, rfl, rfl, rfl, rfl, rfl, (by omega), cuNq_0, (by omega)⟩
  · rintro nM lsM stM I1 L1 R1 S1 hz1 ⟨a, r, le, rfl, rfl, rfl, rfl, rfl, rfl, rfl, ha, hq, hr1⟩
    have hrb := cuNq_b (show pc ≤ 60 by omega) hq
    have hlb := cuNq_l hG hpw hq
    refine And.intro (zDX hD 0 rfl) (zrd (v := pc) hpc ?_)
    refine And.intro ⟨(by omega), (by omega)⟩ ⟨fun h13 => ?_, fun h13 => ?_⟩
    · refine hQ _ (cuNq_e hq (by omega)) (by omega)
    · refine ⟨((61 - a), (61 - (a + 1)), 0), zlt6 (by omega), [some (zvr (k)), some (zvi (n)), some (zvi (r)), some (zvl (le)), none, some (zvi (a)), some (zvi ((a + 1))), none], ⟨rfl, rfl, rfl, rfl, rfl, rfl, rfl⟩, a, (a + 1), r, le, rfl, rfl, rfl, rfl, rfl, rfl, rfl, (by omega), (by omega), hq, (by omega)⟩
  · rintro nM lsM stM I1 L1 R1 S1 hz1 ⟨a, b, r, le, rfl, rfl, rfl, rfl, rfl, rfl, rfl, ha, hab, hq, hr1⟩
    have hrb := cuNq_b (show pc ≤ 60 by omega) hq
    have hlb := cuNq_l hG hpw hq
    refine And.intro (zDX hD 0 rfl) (zrd (v := pc) hpc ?_)
    refine And.intro ⟨(by omega), (by omega)⟩ ⟨fun h28 => ?_, fun h28 => ?_⟩
    · refine ⟨((61 - (a + 1)), 100, 0), zlt6 (by omega), [some (zvr (k)), some (zvi (n)), some (zvi (r)), some (zvl (le)), none, some (zvi ((a + 1))), none, none], ⟨rfl, rfl, rfl, rfl, rfl, rfl⟩, (a + 1), r, le, rfl, rfl, rfl, rfl, rfl, rfl, rfl, (by omega), (cuNq_i hq (by omega)), (by omega)⟩
    · have t28 : b + 1 ≤ pc := (by omega)
      refine And.intro (zDX hD 0 rfl) ⟨_, sn_U_nos.up (by decide), ?_⟩
      refine ⟨_, w, (a : Int), a, rfl, hS, hR, hD, (by first | exact hk | (clear hQ; grind [xu])), (by first | exact (zUw_fr hW (fun c j h => rfl)) | (clear hQ; grind [xu])), (by omega), (by first | exact hG | (clear hQ; grind [xu])), (by omega), ?_⟩
      intro v34o p34hv p34bhv2
      refine And.intro ⟨(by omega), (by omega)⟩ ⟨fun h38 => ?_, fun h38 => ?_⟩
      · refine And.intro (zRb rfl) (zbt rfl ?_)
        refine ⟨((61 - a), (61 - (b + 1)), 0), zlt6 (by omega), [some (zvr (k)), some (zvi (n)), some (zvi (r)), some (zvl (le)), none, some (zvi (a)), some (zvi ((b + 1))), none], ⟨rfl, rfl, rfl, rfl, rfl, rfl, rfl⟩, a, (b + 1), r, le, rfl, rfl, rfl, rfl, rfl, rfl, rfl, (by omega), (by omega), ?_, (by omega)⟩
        · first
          | exact cuNq_s hq (fun z => by obtain ⟨z1, z2, z3, z4⟩ := z; omega)
          | (rw [p114hv]
             exact cuNq_u hq ⟨⟨hab.1, by omega⟩, by omega, by omega, by omega⟩ (by first | exact Or.inl (by omega) | exact Or.inr (by omega)))
          | exact cuNq_k hq (by omega) (by omega)
      · refine And.intro (zDX hD 0 rfl) ⟨_, sn_U_nos.up (by decide), ?_⟩
        refine ⟨_, w, (b : Int), b, rfl, hS, hR, hD, (by first | exact hk | (clear hQ; grind [xu])), (by first | exact (zUw_fr hW (fun c j h => rfl)) | (clear hQ; grind [xu])), (by omega), (by first | exact hG | (clear hQ; grind [xu])), (by omega), ?_⟩
        intro v44o p44hv p44bhv2
        refine And.intro ⟨(by omega), (by omega)⟩ ⟨fun h48 => ?_, fun h48 => ?_⟩
        · refine And.intro (zRb rfl) (zbt rfl ?_)
          refine ⟨((61 - a), (61 - (b + 1)), 0), zlt6 (by omega), [some (zvr (k)), some (zvi (n)), some (zvi (r)), some (zvl (le)), none, some (zvi (a)), some (zvi ((b + 1))), none], ⟨rfl, rfl, rfl, rfl, rfl, rfl, rfl⟩, a, (b + 1), r, le, rfl, rfl, rfl, rfl, rfl, rfl, rfl, (by omega), (by omega), ?_, (by omega)⟩
          · first
            | exact cuNq_s hq (fun z => by obtain ⟨z1, z2, z3, z4⟩ := z; omega)
            | (rw [p114hv]
               exact cuNq_u hq ⟨⟨hab.1, by omega⟩, by omega, by omega, by omega⟩ (by first | exact Or.inl (by omega) | exact Or.inr (by omega)))
            | exact cuNq_k hq (by omega) (by omega)
        · refine And.intro (zDX hD 0 rfl) (zrdR (v := some (k + 9)) (zDR hD 6 rfl) ?_)
          refine And.intro (zDP hD 9 rfl rfl (by omega) (by omega)) (fun v57 e57 r57 => ?_)
          have f57 : v57 = I1 (k + 9) a := (e57.trans (congrArg (I1 (k + 9)) (by omega)))
          refine And.intro (zDX hD 0 rfl) (zrdR (v := some (k + 9)) (zDR hD 6 rfl) ?_)
          refine And.intro (zDP hD 9 rfl rfl (by omega) (by omega)) (fun v64 e64 r64 => ?_)
          have f64 : v64 = I1 (k + 9) b := (e64.trans (congrArg (I1 (k + 9)) (by omega)))
          refine And.intro ⟨r57, r64⟩ ⟨fun h65 => ?_, fun h65 => ?_⟩
          · refine And.intro (zRb rfl) (zbt rfl ?_)
            refine ⟨((61 - a), (61 - (b + 1)), 0), zlt6 (by omega), [some (zvr (k)), some (zvi (n)), some (zvi (r)), some (zvl (le)), none, some (zvi (a)), some (zvi ((b + 1))), none], ⟨rfl, rfl, rfl, rfl, rfl, rfl, rfl⟩, a, (b + 1), r, le, rfl, rfl, rfl, rfl, rfl, rfl, rfl, (by omega), (by omega), ?_, (by omega)⟩
            · first
              | exact cuNq_s hq (fun z => by obtain ⟨z1, z2, z3, z4⟩ := z; omega)
              | (rw [p114hv]
                 exact cuNq_u hq ⟨⟨hab.1, by omega⟩, by omega, by omega, by omega⟩ (by first | exact Or.inl (by omega) | exact Or.inr (by omega)))
              | exact cuNq_k hq (by omega) (by omega)
          · refine And.intro (zRb rfl) (zbf rfl ?_)
            refine And.intro ⟨(by omega), (zRb rfl)⟩ ⟨fun h82 => ?_, fun h82 => ?_⟩
            · refine And.intro (zDX hD 0 rfl) ⟨_, sn_U_sqb.up (by decide), ?_⟩
              refine ⟨_, w, (a : Int), a, (b : Int), b, 0, rfl, hS, hR, hD, (by first | exact hk | (clear hQ; grind [xu])), (by first | exact (zUw_fr hW (fun c j h => rfl)) | (clear hQ; grind [xu])), (by omega), (by first | exact hG | (clear hQ; grind [xu])), (by omega), (by omega), (by omega), ?_⟩
              intro v114o p114hv p114bhv2
              refine ⟨((61 - a), (61 - (b + 1)), 0), zlt6 (by omega), [some (zvr (k)), some (zvi (n)), some (zvi (((60 * a) + b))), some (zvl (v114o)), none, some (zvi (a)), some (zvi ((b + 1))), none], ⟨rfl, rfl, rfl, rfl, rfl, rfl, rfl⟩, a, (b + 1), ((60 * a) + b), v114o, rfl, rfl, rfl, rfl, rfl, rfl, rfl, (by omega), (by omega), ?_, (by omega)⟩
              · first
                | exact cuNq_s hq (fun z => by obtain ⟨z1, z2, z3, z4⟩ := z; omega)
                | (rw [p114hv]
                   exact cuNq_u hq ⟨⟨hab.1, by omega⟩, by omega, by omega, by omega⟩ (by first | exact Or.inl (by omega) | exact Or.inr (by omega)))
                | exact cuNq_k hq (by omega) (by omega)
            · refine And.intro (zDX hD 0 rfl) ⟨_, sn_U_sqb.up (by decide), ?_⟩
              refine ⟨_, w, (a : Int), a, (b : Int), b, 0, rfl, hS, hR, hD, (by first | exact hk | (clear hQ; grind [xu])), (by first | exact (zUw_fr hW (fun c j h => rfl)) | (clear hQ; grind [xu])), (by omega), (by first | exact hG | (clear hQ; grind [xu])), (by omega), (by omega), (by omega), ?_⟩
              intro v91o p91hv p91bhv2
              refine ⟨_, _, ⟨zW6i (by omega), zW6i (by omega)⟩, fun z95 c95 => ?_⟩
              refine And.intro c95.2.2 ⟨fun h96 => ?_, fun h96 => ?_⟩
              · refine ⟨((61 - a), (61 - (b + 1)), 0), zlt6 (by omega), [some (zvr (k)), some (zvi (n)), some (zvi (r)), some (zvl (le)), none, some (zvi (a)), some (zvi ((b + 1))), none], ⟨rfl, rfl, rfl, rfl, rfl, rfl, rfl⟩, a, (b + 1), r, le, rfl, rfl, rfl, rfl, rfl, rfl, rfl, (by omega), (by omega), ?_, (by omega)⟩
                · first
                  | exact cuNq_s hq (fun z => by obtain ⟨z1, z2, z3, z4⟩ := z; omega)
                  | (rw [p114hv]
                     exact cuNq_u hq ⟨⟨hab.1, by omega⟩, by omega, by omega, by omega⟩ (by first | exact Or.inl (by omega) | exact Or.inr (by omega)))
                  | exact cuNq_k hq (by omega) (by omega)
              · refine And.intro (zDX hD 0 rfl) ⟨_, sn_U_sqb.up (by decide), ?_⟩
                refine ⟨_, w, (a : Int), a, (b : Int), b, 0, rfl, hS, hR, hD, (by first | exact hk | (clear hQ; grind [xu])), (by first | exact (zUw_fr hW (fun c j h => rfl)) | (clear hQ; grind [xu])), (by omega), (by first | exact hG | (clear hQ; grind [xu])), (by omega), (by omega), (by omega), ?_⟩
                intro v114o p114hv p114bhv2
                refine ⟨((61 - a), (61 - (b + 1)), 0), zlt6 (by omega), [some (zvr (k)), some (zvi (n)), some (zvi (((60 * a) + b))), some (zvl (v114o)), none, some (zvi (a)), some (zvi ((b + 1))), none], ⟨rfl, rfl, rfl, rfl, rfl, rfl, rfl⟩, a, (b + 1), ((60 * a) + b), v114o, rfl, rfl, rfl, rfl, rfl, rfl, rfl, (by omega), (by omega), ?_, (by omega)⟩
                · first
                  | exact cuNq_s hq (fun z => by obtain ⟨z1, z2, z3, z4⟩ := z; omega)
                  | (rw [p114hv]
                     exact cuNq_u hq ⟨⟨hab.1, by omega⟩, by omega, by omega, by omega⟩ (by first | exact Or.inl (by omega) | exact Or.inr (by omega)))
                  | exact cuNq_k hq (by omega) (by omega))
def T_U_fal : ZT := fun args I L R S Q => ∃ (k : Nat) (w : List CuR) (pc : Nat), args = [zvr k] ∧ (zSh S) ∧ (zRs R) ∧ (zDy zT1 zF1 k R S) ∧ (k = 106 ∨ k = 118) ∧ (zUw k w I) ∧ (w.length ≤ 60) ∧ (cuG w) ∧ (I k 4 = pc) ∧ (cuPq w pc) ∧ (zUp k w I) ∧ (I (k + 5) 1 = 40) ∧ ∀ (I' : ZI), (zUa k w pc I') → ((cuAA w pc).length ≤ 40) → (∀ c j : Nat, ¬ (c = k + 5 ∧ j = 2) → ¬ c = k + 6 → ¬ c = k + 9 → I' c j = I c j) → Q none I' L R S
theorem sn_U_fal : ZSnd 5 1 17 T_U_fal := ZSnd.loops (zT1_17 4) (by
  rintro args I L R S Q hz ⟨k, w, pc, rfl, hS, hR, hD, hk, hW, hl, hG, hpc, hpq, hUp, h40, hQ⟩
  have hk106 : 106 ≤ k := by omega
  have hk118 : k ≤ 118 := by omega
  have hT1 := zUw_T hW hl
  have hN := hT1.2.1
  obtain ⟨hp40, hpw, hp1⟩ := id hpq
  have hpp := cuPq_p hpq
  obtain ⟨u1, u2, u3⟩ := id hUp
  refine ⟨[10, 18, 52], fun nM tM lsM stM I1 L1 R1 S1 => match tM with
      | 10 => ∃ (N : Nat), nM = ((13 - N), 200, 0) ∧ lsM = [some (zvr (k)), some (zvi (N)), none, none, none, none] ∧ stM = [] ∧ L1 = L ∧ R1 = R ∧ S1 = S ∧ (N ≤ 12) ∧ (zRT (k + 5) 40 (cuC (cuAL w pc) N).length (cg (cuC (cuAL w pc) N)) I1) ∧ ((cuC (cuAL w pc) N).length ≤ zct (cuNl w N) pc) ∧ (∀ c j : Nat, ¬ (c = k + 5 ∧ j = 2) → ¬ c = k + 6 → ¬ c = k + 9 → I1 c j = I c j)
      | 18 => ∃ (N : Nat) (m : Nat), nM = ((13 - N), (150 - m), 0) ∧ lsM = [some (zvr (k)), some (zvi (N)), some (zvi (m)), none, none, none] ∧ stM = [] ∧ L1 = L ∧ R1 = R ∧ S1 = S ∧ (N ≤ 11) ∧ (m ≤ pc) ∧ (zRT (k + 5) 40 (cuC (cuAL w pc) N).length (cg (cuC (cuAL w pc) N)) I1) ∧ ((cuC (cuAL w pc) N).length ≤ zct (cuNl w N) pc) ∧ (∀ p : Nat, p < m → I1 (k + 9) p = cuM w pc N 0 p) ∧ (∀ c j : Nat, ¬ (c = k + 5 ∧ j = 2) → ¬ c = k + 6 → ¬ c = k + 9 → I1 c j = I c j)
      | 52 => ∃ (N : Nat) (t : Nat) (r : Int), nM = ((13 - N), (61 - t), 0) ∧ lsM = [some (zvr (k)), some (zvi (N)), some (zvi (r)), some (zvi (t)), none, none] ∧ stM = [] ∧ L1 = L ∧ R1 = R ∧ S1 = S ∧ (N ≤ 11) ∧ (t ≤ 40) ∧ (zRT (k + 5) 40 (cuC (cuAL w pc) N ++ cuC (fun t => [cuA1 w pc N t]) t).length (cg (cuC (cuAL w pc) N ++ cuC (fun t => [cuA1 w pc N t]) t)) I1) ∧ (cuAB w pc N t) ∧ (∀ p : Nat, p < pc → I1 (k + 9) p = cuM w pc N t p) ∧ (cuNx w pc N (cuM w pc N t) r) ∧ (r = -1 ∨ (0 ≤ r ∧ r < 3600)) ∧ (∀ s, s < t → cuAr w pc N s ≠ -1) ∧ (∀ c j : Nat, ¬ (c = k + 5 ∧ j = 2) → ¬ c = k + 6 → ¬ c = k + 9 → I1 c j = I c j)
      | _ => False, rfl, ?_, ⟨?_, ?_, ?_, True.intro⟩⟩
  · refine And.intro (zDX hD 0 rfl) (zrdR (v := some (k + 5)) (zDR hD 3 rfl) ?_)
    refine And.intro (zDX hD 5 rfl) ⟨_, (zWi (zRb rfl)), ?_⟩
    refine ⟨((13 - (0 : Nat)), 200, 0), [some (zvr (k)), some (zvi ((0 : Nat))), none, none, none, none], ⟨rfl, rfl, rfl⟩, 0, rfl, rfl, rfl, rfl, rfl, rfl, (by omega), (zRT_0 (zxs (by decide) h40) zxe), cuNl_0, (fun c j h0 h1 h2 => (zxcj h0 rfl))⟩
  · rintro nM lsM stM I1 L1 R1 S1 hz1 ⟨N, rfl, rfl, rfl, rfl, rfl, rfl, hN12, hA, hAl, fr⟩
    have hzl := zct_le (cuNl w N) pc
    refine And.intro ⟨(by omega), (zRb rfl)⟩ ⟨fun h13 => ?_, fun h13 => ?_⟩
    · refine hQ _ (by have e : N = 12 := (by omega); subst e; exact hA) (by have e : N = 12 := (by omega); subst e; exact Nat.le_trans hAl (by omega)) (fun c j h0 h1 h2 => ((fr c j h0 h1 h2).trans rfl))
    · refine ⟨((13 - N), (150 - (0 : Nat)), 0), zlt6 (by omega), [some (zvr (k)), some (zvi (N)), some (zvi ((0 : Nat))), none, none, none], ⟨rfl, rfl, rfl, rfl⟩, N, 0, rfl, rfl, rfl, rfl, rfl, rfl, (by omega), (by omega), hA, (by first | exact hAl | (clear hQ; grind [xu])), (fun p h => absurd h (Nat.not_lt_zero p)), (fun c j h0 h1 h2 => ((fr c j h0 h1 h2).trans rfl))⟩
  · rintro nM lsM stM I1 L1 R1 S1 hz1 ⟨N, m, rfl, rfl, rfl, rfl, rfl, rfl, hN12, hm, hA, hAl, hmk, fr⟩
    refine And.intro (zDX hD 0 rfl) (zrd (v := pc) ((fr k 4 (by omega) (by omega) (by omega)).trans hpc) ?_)
    refine And.intro ⟨(by omega), (by omega)⟩ ⟨fun h23 => ?_, fun h23 => ?_⟩
    · refine And.intro (zDX hD 0 rfl) ⟨_, sn_U_nrp.up (by decide), ?_⟩
      refine ⟨_, w, pc, N, rfl, hS, hR, hD, (by first | exact hk | (clear hQ; grind [xu])), (by first | exact (zUw_fr hW (fun c j h => ((fr c j (by omega) (by omega) (by omega)).trans rfl))) | (clear hQ; grind [xu])), (by omega), (by first | exact hG | (clear hQ; grind [xu])), ((fr k 4 (by omega) (by omega) (by omega)).trans hpc), (by first | exact hpq | (clear hQ; grind [xu])), (by omega), ?_⟩
      intro v46o p46hv p46bhv2
      refine ⟨((13 - N), (61 - (0 : Nat)), 0), zlt6 (by omega), [some (zvr (k)), some (zvi (N)), some (zvi (v46o)), some (zvi ((0 : Nat))), none, none], ⟨rfl, rfl, rfl, rfl, rfl⟩, N, 0, v46o, rfl, rfl, rfl, rfl, rfl, rfl, (by omega), (by omega), (zRT_g hA (by show _ = (_ ++ []).length; rw [List.append_nil]) (by show _ = cg (_ ++ []); rw [List.append_nil])), (cuAB_0 hAl), (fun p hp => hmk p (by omega)), (cuNx_c (fun p hp => hmk p (by omega)) p46hv), p46bhv2, (fun s h => absurd h (Nat.not_lt_zero s)), (fun c j h0 h1 h2 => ((fr c j h0 h1 h2).trans rfl))⟩
    · refine And.intro (zDX hD 0 rfl) (zrdR (v := some (k + 9)) (zDR hD 6 rfl) ?_)
      refine And.intro (zDX hD 0 rfl) (zrdR (v := some (k + 4)) (zDR hD 2 rfl) ?_)
      refine And.intro (zDP hD 4 rfl rfl (by omega) (by omega)) (fun v36 e36 r36 => ?_)
      have f36 : v36 = cuNm w m := (e36.trans ((fr (k + 4) _ (by omega) (by omega) (by omega)).trans ((congrArg (I (k + 4)) (by omega)).trans (u3 m (by omega)))))
      refine And.intro ⟨(by show 40 ≤ _; omega), (zDP hD 9 rfl rfl (by omega) (by omega))⟩ ⟨_, (zWi r36), ?_⟩
      refine ⟨((13 - N), (150 - (m + 1)), 0), zlt6 (by omega), [some (zvr (k)), some (zvi (N)), some (zvi ((m + 1))), none, none, none], ⟨rfl, rfl, rfl, rfl⟩, N, (m + 1), rfl, rfl, rfl, rfl, rfl, rfl, (by omega), (by omega), (zRT_fr hA (fun c j h => zxu (by omega) rfl)), (by first | exact hAl | (clear hQ; grind [xu])), ?_, (fun c j h0 h1 h2 => (zxu h2 ((fr c j h0 h1 h2).trans rfl)))⟩
      · intro p hp
        by_cases e : p = m
        · subst e
          exact zxe.trans f36
        · exact zxs (by omega) (hmk p (by omega))
  · rintro nM lsM stM I1 L1 R1 S1 hz1 ⟨N, t, r, rfl, rfl, rfl, rfl, rfl, rfl, hN12, ht, hA, hAB, hmk, hx, hrb, hl, fr⟩
    have hbl := cuAB_l hAB
    have hlen : (cuC (cuAL w pc) N ++ cuC (fun t => [cuA1 w pc N t]) t).length = (cuC (cuAL w pc) N).length + t := (by rw [List.length_append, cuC_1])
    have hxb := cuNx_b (show pc ≤ 60 by omega) hx
    refine And.intro (zDX hD 0 rfl) (zrd (v := pc) ((fr k 4 (by omega) (by omega) (by omega)).trans hpc) ?_)
    refine And.intro ⟨(by omega), (by omega)⟩ ⟨fun h57 => ?_, fun h57 => ?_⟩
    · refine ⟨((13 - (N + 1)), 200, 0), zlt6 (by omega), [some (zvr (k)), some (zvi ((N + 1))), none, none, none, none], ⟨rfl, rfl, rfl⟩, (N + 1), rfl, rfl, rfl, rfl, rfl, rfl, (by omega), ?_, (cuAB_e hAB (cuAn_e (show pc ≤ 60 by omega) hAB hx hl (by omega))), (fun c j h0 h1 h2 => ((fr c j h0 h1 h2).trans rfl))⟩
      · have e := cuAn_e (show pc ≤ 60 by omega) hAB hx hl (by omega)
        refine zRT_g hA ?_ ?_
        · show _ = (cuC (cuAL w pc) N ++ cuAL w pc N).length
          unfold cuAL
          rw [e]
        · show _ = cg (cuC (cuAL w pc) N ++ cuAL w pc N)
          unfold cuAL
          rw [e]
    · refine And.intro ⟨(by omega), (zRb rfl)⟩ ⟨fun h62 => ?_, fun h62 => ?_⟩
      · refine ⟨((13 - (N + 1)), 200, 0), zlt6 (by omega), [some (zvr (k)), some (zvi ((N + 1))), none, none, none, none], ⟨rfl, rfl, rfl⟩, (N + 1), rfl, rfl, rfl, rfl, rfl, rfl, (by omega), ?_, (cuAB_e hAB (cuAn_e (show pc ≤ 60 by omega) hAB hx hl (by omega))), (fun c j h0 h1 h2 => ((fr c j h0 h1 h2).trans rfl))⟩
        · have e := cuAn_e (show pc ≤ 60 by omega) hAB hx hl (by omega)
          refine zRT_g hA ?_ ?_
          · show _ = (cuC (cuAL w pc) N ++ cuAL w pc N).length
            unfold cuAL
            rw [e]
          · show _ = cg (cuC (cuAL w pc) N ++ cuAL w pc N)
            unfold cuAL
            rw [e]
      · have t62 : (0 ≤ r ∧ r < 3600) ∧ cuAp w pc N (cuM w pc N t) (r / 60).toNat (r % 60).toNat := (by rcases hxb with z | z; omega; exact z)
        have t62b : (r / 60).toNat < pc ∧ (r % 60).toNat < pc ∧ (cuC (cuAL w pc) N ++ cuC (fun t => [cuA1 w pc N t]) t).length < 40 := (by have z := t62.2.1; have z2 := cuAB_r (show pc ≤ 60 by omega) hx (by omega); omega)
        refine And.intro ⟨(by omega), (zRb rfl), (by decide)⟩ (zdv (by omega) (fun q68 e68 => ?_))
        refine And.intro ⟨(by omega), (zRb rfl), (by decide)⟩ (zdv (by omega) (fun q74 e74 => ?_))
        refine And.intro (zDX hD 0 rfl) (zrdR (v := some (k + 5)) (zDR hD 3 rfl) ?_)
        refine And.intro (zDX hD 5 rfl) ⟨_, sn_A_add.up (by decide), ?_⟩
        refine ⟨(k + 5), 40, (cuC (cuAL w pc) N ++ cuC (fun t => [cuA1 w pc N t]) t).length, (cg (cuC (cuAL w pc) N ++ cuC (fun t => [cuA1 w pc N t]) t)), (N : Int), (q68 : Int), (q74 : Int), (0 : Int), (0 : Int), rfl, hS, hR, (zRw_1_5 hD), (by first | exact (zRT_fr hA (fun c j h => rfl)) | (clear hQ; grind [xu])), t62b.2.2, (by omega), ?_⟩
        intro v88o I88o p88hv p88bhT2 p88bbfr
        refine And.intro (zDX hD 0 rfl) (zrdR (v := some (k + 9)) (zDR hD 6 rfl) ?_)
        refine And.intro (zDP hD 9 rfl rfl (by omega) (by omega)) (fun v99 e99 r99 => ?_)
        have f99 : v99 = cuM w pc N t (r / 60).toNat := (e99.trans ((p88bbfr (k + 9) _ (by omega) (by omega)).trans ((congrArg (I1 (k + 9)) (by omega)).trans (hmk (r / 60).toNat t62b.1))))
        refine And.intro (zDX hD 0 rfl) (zrdR (v := some (k + 9)) (zDR hD 6 rfl) ?_)
        refine And.intro (zDP hD 9 rfl rfl (by omega) (by omega)) (fun v106 e106 r106 => ?_)
        have f106 : v106 = cuM w pc N t (r % 60).toNat := (e106.trans ((p88bbfr (k + 9) _ (by omega) (by omega)).trans ((congrArg (I1 (k + 9)) (by omega)).trans (hmk (r % 60).toNat t62b.2.1))))
        refine And.intro (zDX hD 0 rfl) ⟨_, sn_U_jmk.up (by decide), ?_⟩
        refine ⟨k, pc, (v99 : Int), (v106 : Int), rfl, hS, hR, hD, (by first | exact hk | (clear hQ; grind [xu])), ((p88bbfr k 4 (by omega) (by omega)).trans ((fr k 4 (by omega) (by omega) (by omega)).trans hpc)), (by omega), (by omega), ?_⟩
        intro I107o p107hL p107bfr
        refine And.intro (zDX hD 0 rfl) ⟨_, sn_U_nrp.up (by decide), ?_⟩
        refine ⟨_, w, pc, N, rfl, hS, hR, hD, (by first | exact hk | (clear hQ; grind [xu])), (by first | exact (zUw_fr hW (fun c j h => ((p107bfr c j (by omega)).trans ((p88bbfr c j (by omega) (by omega)).trans ((fr c j (by omega) (by omega) (by omega)).trans rfl))))) | (clear hQ; grind [xu])), (by omega), (by first | exact hG | (clear hQ; grind [xu])), ((p107bfr k 4 (by omega)).trans ((p88bbfr k 4 (by omega) (by omega)).trans ((fr k 4 (by omega) (by omega) (by omega)).trans hpc))), (by first | exact hpq | (clear hQ; grind [xu])), (by omega), ?_⟩
        intro v112o p112hv p112bhv2
        refine ⟨((13 - N), (61 - (t + 1)), 0), zlt6 (by omega), [some (zvr (k)), some (zvi (N)), some (zvi (v112o)), some (zvi ((t + 1))), none, none], ⟨rfl, rfl, rfl, rfl, rfl⟩, N, (t + 1), v112o, rfl, rfl, rfl, rfl, rfl, rfl, (by omega), (by omega), ?_, (cuAB_s (by omega) hAB hx (by omega)), ?_, ?_, p112bhv2, ?_, (fun c j h0 h1 h2 => ((p107bfr c j h2).trans ((p88bbfr c j h1 h0).trans ((fr c j h0 h1 h2).trans rfl))))⟩
        · have e : (cuC (cuAL w pc) N ++ cuC (fun t => [cuA1 w pc N t]) t).length = _ := rfl
          refine zRT_fr (zRT_g (zRT_up p88bhT2) ?_ ?_) (fun c j h => p107bfr c j (by omega))
          · rw [List.append_assoc]
            show (cuC (cuAL w pc) N ++ (cuC (fun t => [cuA1 w pc N t]) t ++ _)).length = (cuC (cuAL w pc) N ++ (cuC (fun t => [cuA1 w pc N t]) t ++ [cuA1 w pc N t])).length
            rw [List.length_append, List.length_append, List.length_append, List.length_append]
            rfl
          · have ec : cuA1 w pc N t = cRw N q68 q74 0 0 := by
              unfold cuA1
              rw [cuAr_e hx, e68, e74]
            rw [List.append_assoc, ← ec]
            rfl
        · intro p hp
          rw [cuM_s (by rw [cuAr_e hx]; omega), cuAr_e hx]
          unfold cuJm
          rw [← f99, ← f106]
          refine (p107hL p hp).trans ?_
          rw [p88bbfr (k + 9) p (by omega) (by omega), hmk p hp]
        · refine cuNx_c (fun p hp => ?_) p112hv
          rw [cuM_s (by rw [cuAr_e hx]; omega), cuAr_e hx]
          unfold cuJm
          rw [← f99, ← f106]
          refine (p107hL p hp).trans ?_
          rw [p88bbfr (k + 9) p (by omega) (by omega), hmk p hp]
        · intro s hs
          by_cases e : s = t
          · rw [e, cuAr_e hx]; omega
          · exact hl s (by omega))
