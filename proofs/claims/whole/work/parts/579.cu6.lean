/-! cu6 -/
def T_U_fpt : ZT := fun args I L R S Q => ∃ (k : Nat) (P : Nat → Prop) (a : Int) (b : Int), args = [zvr k, zvi a, zvi b] ∧ (zSh S) ∧ (zRs R) ∧ (zDy zT1 zF1 k R S) ∧ (k = 106 ∨ k = 118) ∧ (zFs k P I) ∧ (I k 11 ≤ 1950) ∧ (r32 a ∧ r32 b) ∧ ∀ (v : Int), (v = if 0 ≤ a ∧ a < I k 11 then cuDc (I (k + 7) a.toNat) b else -1) → Q (some (zvi (v))) I L R S
theorem sn_U_fpt : ZSnd 1 1 16 T_U_fpt := ZSnd.of (zT1_16 0) (by
  rintro args I L R S Q hz ⟨k, P, a, b, rfl, hS, hR, hD, hk, hF, hm, hr, hQ⟩
  have hk106 : 106 ≤ k := by omega
  have hk118 : k ≤ 118 := by omega
  have hm0 := hF.1
  have hP := hF.2.2.1
  have hN := hF.2.2.2.1
  refine And.intro rfl ?_
  refine And.intro (by omega) ⟨fun h1 => ?_, fun h1 => ?_⟩
  · refine hQ _ ?_
    · first
      | (rw [if_neg (by omega)])
      | (rw [if_pos (by omega)]
         unfold cuDc
         first
         | (rw [if_pos (by omega)]; omega)
         | (rw [if_neg (by omega), if_pos (by omega)]; omega)
         | (rw [if_neg (by omega), if_neg (by omega), if_pos (by omega)]; omega)
         | (rw [if_neg (by omega), if_neg (by omega), if_neg (by omega)]))
  · refine And.intro (zDX hD 0 rfl) (fun v6 e6 r6 => ?_)
    refine And.intro ⟨(by omega), r6⟩ ⟨fun h9 => ?_, fun h9 => ?_⟩
    · have t9 : 0 ≤ I (k + 7) a.toNat ∧ I (k + 7) a.toNat < 20000000 := (by have z := hN a.toNat (by omega); have z2 := hP _ z.2; exact ⟨z.1, by have e : cuNN = 20000000 := rfl; omega⟩)
      refine And.intro (zDX hD 0 rfl) (zrdR (v := some (k + 7)) (zDR hD 4 rfl) ?_)
      refine And.intro (zDP hD 7 rfl rfl (by omega) (by omega)) (fun v19 e19 r19 => ?_)
      have f19 : v19 = I (k + 7) a.toNat := e19
      refine And.intro ⟨r19, (zRb rfl), (by decide)⟩ (zdv (by omega) (fun q22 e22 => ?_))
      refine And.intro (zDX hD 0 rfl) (zrdR (v := some (k + 7)) (zDR hD 4 rfl) ?_)
      refine And.intro (zDP hD 7 rfl rfl (by omega) (by omega)) (fun v31 e31 r31 => ?_)
      have f31 : v31 = I (k + 7) a.toNat := e31
      refine And.intro ⟨r31, (zRb rfl), (by decide)⟩ (zdv (by omega) (fun q34 e34 => ?_))
      refine And.intro (by omega) (And.intro (And.intro (fun h38 => ?_) (And.intro (fun h38 => ?_) (And.intro (fun h38 => ?_) True.intro))) (fun h38 => ?_))
      · refine And.intro ⟨(by omega), (zRb rfl), (by decide)⟩ (zdv (by omega) (fun q68 e68 => ?_))
        refine And.intro ⟨(by omega), (zRb rfl), (by decide)⟩ (zdv (by omega) (fun q70 e70 => ?_))
        refine hQ _ ?_
        · first
          | (rw [if_neg (by omega)])
          | (rw [if_pos (by omega)]
             unfold cuDc
             first
             | (rw [if_pos (by omega)]; omega)
             | (rw [if_neg (by omega), if_pos (by omega)]; omega)
             | (rw [if_neg (by omega), if_neg (by omega), if_pos (by omega)]; omega)
             | (rw [if_neg (by omega), if_neg (by omega), if_neg (by omega)]))
      · refine And.intro ⟨(by omega), (zRb rfl), (by decide)⟩ (zdv (by omega) (fun q76 e76 => ?_))
        refine hQ _ ?_
        · first
          | (rw [if_neg (by omega)])
          | (rw [if_pos (by omega)]
             unfold cuDc
             first
             | (rw [if_pos (by omega)]; omega)
             | (rw [if_neg (by omega), if_pos (by omega)]; omega)
             | (rw [if_neg (by omega), if_neg (by omega), if_pos (by omega)]; omega)
             | (rw [if_neg (by omega), if_neg (by omega), if_neg (by omega)]))
      · refine hQ _ ?_
        · first
          | (rw [if_neg (by omega)])
          | (rw [if_pos (by omega)]
             unfold cuDc
             first
             | (rw [if_pos (by omega)]; omega)
             | (rw [if_neg (by omega), if_pos (by omega)]; omega)
             | (rw [if_neg (by omega), if_neg (by omega), if_pos (by omega)]; omega)
             | (rw [if_neg (by omega), if_neg (by omega), if_neg (by omega)]))
      · refine hQ _ ?_
        · first
          | (rw [if_neg (by omega)])
          | (rw [if_pos (by omega)]
             unfold cuDc
             first
             | (rw [if_pos (by omega)]; omega)
             | (rw [if_neg (by omega), if_pos (by omega)]; omega)
             | (rw [if_neg (by omega), if_neg (by omega), if_pos (by omega)]; omega)
             | (rw [if_neg (by omega), if_neg (by omega), if_neg (by omega)]))
    · refine hQ _ ?_
      · first
        | (rw [if_neg (by omega)])
        | (rw [if_pos (by omega)]
           unfold cuDc
           first
           | (rw [if_pos (by omega)]; omega)
           | (rw [if_neg (by omega), if_pos (by omega)]; omega)
           | (rw [if_neg (by omega), if_neg (by omega), if_pos (by omega)]; omega)
           | (rw [if_neg (by omega), if_neg (by omega), if_neg (by omega)])))
def T_U_jcp : ZT := fun args I L R S Q => ∃ (k : Nat) (a : Int) (b : Int) (d : Int) (n : Nat), args = [zvr k, zvi a, zvi b, zvi d] ∧ (zSh S) ∧ (zRs R) ∧ (zDy zT1 zF1 k R S) ∧ (k = 106 ∨ k = 118) ∧ (d = n ∧ n ≤ 60) ∧ (r32 a ∧ r32 b) ∧ ∀ (I' : ZI), (∀ p : Nat, p < n → I' (k + 4) p = if I (k + 4) p = a ∨ I (k + 4) p = b then min a b else I (k + 4) p) → (∀ c j : Nat, ¬ c = k + 4 → I' c j = I c j) → Q none I' L R S
theorem sn_U_jcp : ZSnd 1 1 34 T_U_jcp := ZSnd.loops (zT1_34 0) (by
  rintro args I L R S Q hz ⟨k, a, b, d, n, rfl, hS, hR, hD, hk, hn, hr, hQ⟩
  have hk106 : 106 ≤ k := by omega
  have hk118 : k ≤ 118 := by omega
  refine ⟨[10], fun nM tM lsM stM I1 L1 R1 S1 => match tM with
      | 10 => ∃ (m : Nat) (le : Int), nM = ((61 - m), 0, 0) ∧ lsM = [some (zvr (k)), some (zvi (a)), some (zvi (b)), some (zvi (d)), some (zvi (le)), some (zvi (m))] ∧ stM = [] ∧ L1 = L ∧ R1 = R ∧ S1 = S ∧ (m ≤ n) ∧ (le = min a b ∧ r32 le) ∧ (∀ p : Nat, p < m → I1 (k + 4) p = if I (k + 4) p = a ∨ I (k + 4) p = b then min a b else I (k + 4) p) ∧ (∀ p : Nat, m ≤ p → I1 (k + 4) p = I (k + 4) p) ∧ (∀ c j : Nat, ¬ c = k + 4 → I1 c j = I c j)
      | _ => False, rfl, ?_, ⟨?_, True.intro⟩⟩
  · refine And.intro ⟨(by omega), (by omega)⟩ ?_
    refine ⟨((61 - (0 : Nat)), 0, 0), [some (zvr (k)), some (zvi (a)), some (zvi (b)), some (zvi (d)), some (zvi ((min a b))), some (zvi ((0 : Nat)))], ⟨rfl, rfl, rfl, rfl, rfl, rfl, rfl⟩, 0, (min a b), rfl, rfl, rfl, rfl, rfl, rfl, (by omega), (by omega), (fun p h => absurd h (Nat.not_lt_zero p)), (fun p _ => rfl), (fun c j h0 => rfl)⟩
  · rintro nM lsM stM I1 L1 R1 S1 hz1 ⟨m, le, rfl, rfl, rfl, rfl, rfl, rfl, hm, hle, hL1, hL2, fr⟩
    refine And.intro ⟨(by omega), (by omega)⟩ ⟨fun h13 => ?_, fun h13 => ?_⟩
    · refine hQ _ (fun p hp => hL1 p (by omega)) (fun c j h0 => ((fr c j h0).trans rfl))
    · refine And.intro (zDX hD 0 rfl) (zrdR (v := some (k + 4)) (zDR hD 2 rfl) ?_)
      refine And.intro (zDP hD 4 rfl rfl (by omega) (by omega)) (fun v22 e22 r22 => ?_)
      have f22 : v22 = I (k + 4) m := (e22.trans ((congrArg (I1 (k + 4)) (by omega)).trans (hL2 m (Nat.le_refl m))))
      refine And.intro ⟨r22, (by omega)⟩ ⟨fun h24 => ?_, fun h24 => ?_⟩
      · refine And.intro (zDX hD 0 rfl) (zrdR (v := some (k + 4)) (zDR hD 2 rfl) ?_)
        refine And.intro ⟨(by show 40 ≤ _; omega), (zDP hD 4 rfl rfl (by omega) (by omega))⟩ ⟨_, (zWi (by omega)), ?_⟩
        refine ⟨((61 - (m + 1)), 0, 0), zlt6 (by omega), [some (zvr (k)), some (zvi (a)), some (zvi (b)), some (zvi (d)), some (zvi (le)), some (zvi ((m + 1)))], ⟨rfl, rfl, rfl, rfl, rfl, rfl, rfl⟩, (m + 1), le, rfl, rfl, rfl, rfl, rfl, rfl, (by omega), (by first | exact hle | (clear hQ; grind [xu])), ?_, (fun p hp => by first | exact zxs (by omega) (hL2 p (by omega)) | exact hL2 p (by omega)), (fun c j h0 => (zxu h0 ((fr c j h0).trans rfl)))⟩
        · intro p hp
          by_cases e : p = m
          · subst e
            first
            | (rw [if_pos (by omega)]; exact zxe.trans hle.1)
            | (rw [if_neg (by omega)]; exact hL2 p (Nat.le_refl p))
          · first
            | exact zxs (by omega) (hL1 p (by omega))
            | exact hL1 p (by omega)
      · refine And.intro (zDX hD 0 rfl) (zrdR (v := some (k + 4)) (zDR hD 2 rfl) ?_)
        refine And.intro (zDP hD 4 rfl rfl (by omega) (by omega)) (fun v33 e33 r33 => ?_)
        have f33 : v33 = I (k + 4) m := (e33.trans ((congrArg (I1 (k + 4)) (by omega)).trans (hL2 m (Nat.le_refl m))))
        refine And.intro ⟨r33, (by omega)⟩ ⟨fun h35 => ?_, fun h35 => ?_⟩
        · refine ⟨((61 - (m + 1)), 0, 0), zlt6 (by omega), [some (zvr (k)), some (zvi (a)), some (zvi (b)), some (zvi (d)), some (zvi (le)), some (zvi ((m + 1)))], ⟨rfl, rfl, rfl, rfl, rfl, rfl, rfl⟩, (m + 1), le, rfl, rfl, rfl, rfl, rfl, rfl, (by omega), (by first | exact hle | (clear hQ; grind [xu])), ?_, (fun p hp => by first | exact zxs (by omega) (hL2 p (by omega)) | exact hL2 p (by omega)), (fun c j h0 => ((fr c j h0).trans rfl))⟩
          · intro p hp
            by_cases e : p = m
            · subst e
              first
              | (rw [if_pos (by omega)]; exact zxe.trans hle.1)
              | (rw [if_neg (by omega)]; exact hL2 p (Nat.le_refl p))
            · first
              | exact zxs (by omega) (hL1 p (by omega))
              | exact hL1 p (by omega)
        · refine And.intro (zDX hD 0 rfl) (zrdR (v := some (k + 4)) (zDR hD 2 rfl) ?_)
          refine And.intro ⟨(by show 40 ≤ _; omega), (zDP hD 4 rfl rfl (by omega) (by omega))⟩ ⟨_, (zWi (by omega)), ?_⟩
          refine ⟨((61 - (m + 1)), 0, 0), zlt6 (by omega), [some (zvr (k)), some (zvi (a)), some (zvi (b)), some (zvi (d)), some (zvi (le)), some (zvi ((m + 1)))], ⟨rfl, rfl, rfl, rfl, rfl, rfl, rfl⟩, (m + 1), le, rfl, rfl, rfl, rfl, rfl, rfl, (by omega), (by first | exact hle | (clear hQ; grind [xu])), ?_, (fun p hp => by first | exact zxs (by omega) (hL2 p (by omega)) | exact hL2 p (by omega)), (fun c j h0 => (zxu h0 ((fr c j h0).trans rfl)))⟩
          · intro p hp
            by_cases e : p = m
            · subst e
              first
              | (rw [if_pos (by omega)]; exact zxe.trans hle.1)
              | (rw [if_neg (by omega)]; exact hL2 p (Nat.le_refl p))
            · first
              | exact zxs (by omega) (hL1 p (by omega))
              | exact hL1 p (by omega))
def T_U_num : ZT := fun args I L R S Q => ∃ (k : Nat) (n : Nat) (E : Nat → Nat → Prop), args = [zvr k] ∧ (zSh S) ∧ (zRs R) ∧ (zDy zT1 zF1 k R S) ∧ (k = 106 ∨ k = 118) ∧ (I k 6 = n) ∧ (n ≤ 60) ∧ (zLb n E (I (k + 4))) ∧ ∀ (I' : ZI), (∀ p : Nat, p < n → I' (k + 4) p = cuNo E p) → (∀ c j : Nat, ¬ c = k + 4 → ¬ c = k + 9 → I' c j = I c j) → Q none I' L R S
theorem sn_U_num : ZSnd 1 1 41 T_U_num := ZSnd.loops (zT1_41 0) (by
  rintro args I L R S Q hz ⟨k, n, E, rfl, hS, hR, hD, hk, hn, hn2, hLb, hQ⟩
  have hk106 : 106 ≤ k := by omega
  have hk118 : k ≤ 118 := by omega
  refine ⟨[4, 40], fun nM tM lsM stM I1 L1 R1 S1 => match tM with
      | 4 => ∃ (m : Nat), nM = (2, (61 - m), 0) ∧ lsM = [some (zvr (k)), some (zvi (zct (cuIr E) m)), some (zvi (m))] ∧ stM = [] ∧ L1 = L ∧ R1 = R ∧ S1 = S ∧ (m ≤ n) ∧ (∀ q : Nat, q < m → cuIr E q → I1 (k + 9) q = zct (cuIr E) q) ∧ (∀ c j : Nat, ¬ c = k + 9 → I1 c j = I c j)
      | 40 => ∃ (m : Nat), nM = (1, (61 - m), 0) ∧ lsM = [some (zvr (k)), none, some (zvi (m))] ∧ stM = [] ∧ L1 = L ∧ R1 = R ∧ S1 = S ∧ (m ≤ n) ∧ (∀ q : Nat, q < n → cuIr E q → I1 (k + 9) q = zct (cuIr E) q) ∧ (∀ p : Nat, p < m → I1 (k + 4) p = cuNo E p) ∧ (∀ p : Nat, m ≤ p → I1 (k + 4) p = I (k + 4) p) ∧ (∀ c j : Nat, ¬ c = k + 4 → ¬ c = k + 9 → I1 c j = I c j)
      | _ => False, rfl, ?_, ⟨?_, ?_, True.intro⟩⟩
  · refine ⟨(2, (61 - (0 : Nat)), 0), [some (zvr (k)), some (zvi (zct (cuIr E) (0 : Nat))), some (zvi ((0 : Nat)))], ⟨rfl, (congrArg (fun z => some (zvi z)) rfl), rfl, rfl⟩, 0, rfl, rfl, rfl, rfl, rfl, rfl, (by omega), (fun q h => absurd h (Nat.not_lt_zero q)), (fun c j h0 => rfl)⟩
  · rintro nM lsM stM I1 L1 R1 S1 hz1 ⟨m, rfl, rfl, rfl, rfl, rfl, rfl, hm, ho, fr⟩
    have hz1 := zct_le (cuIr E) m
    refine And.intro (zDX hD 0 rfl) (zrd (v := n) ((fr k 6 (by omega)).trans hn) ?_)
    refine And.intro ⟨(by omega), (by omega)⟩ ⟨fun h9 => ?_, fun h9 => ?_⟩
    · refine ⟨(1, (61 - (0 : Nat)), 0), zlt6 (by omega), [some (zvr (k)), none, some (zvi ((0 : Nat)))], ⟨rfl, rfl, rfl⟩, 0, rfl, rfl, rfl, rfl, rfl, rfl, (by omega), (fun q hq hr => ho q (by omega) hr), (fun p h => absurd h (Nat.not_lt_zero p)), (fun p _ => fr (k + 4) p (by omega)), (fun c j h0 h1 => ((fr c j h1).trans rfl))⟩
    · refine And.intro (zDX hD 0 rfl) (zrdR (v := some (k + 4)) (zDR hD 2 rfl) ?_)
      refine And.intro (zDP hD 4 rfl rfl (by omega) (by omega)) (fun v17 e17 r17 => ?_)
      have f17 : v17 = cuRo E m := (e17.trans ((fr (k + 4) _ (by omega)).trans ((congrArg (I (k + 4)) (by omega)).trans (zLb_r hLb (p := m) (by omega)))))
      refine And.intro ⟨r17, (by omega)⟩ ⟨fun h19 => ?_, fun h19 => ?_⟩
      · refine ⟨(2, (61 - (m + 1)), 0), zlt6 (by omega), [some (zvr (k)), some (zvi (zct (cuIr E) (m + 1))), some (zvi ((m + 1)))], ⟨rfl, (congrArg (fun z => some (zvi z)) (by first | (rw [zct_t (show cuIr E m by unfold cuIr; omega)]; rfl) | (rw [zct_f (show ¬ cuIr E m by unfold cuIr; omega)]))), rfl, rfl⟩, (m + 1), rfl, rfl, rfl, rfl, rfl, rfl, (by omega), ?_, (fun c j h0 => ((fr c j h0).trans rfl))⟩
        · intro q hq hr
          by_cases e : q = m
          · subst e
            first
            | exact zxe
            | (exfalso; unfold cuIr at hr; omega)
          · first
            | exact zxs (by omega) (ho q (by omega) hr)
            | exact ho q (by omega) hr
      · refine And.intro (zDX hD 0 rfl) (zrdR (v := some (k + 9)) (zDR hD 6 rfl) ?_)
        refine And.intro ⟨(by show 40 ≤ _; omega), (zDP hD 9 rfl rfl (by omega) (by omega))⟩ ⟨_, (zWi (by omega)), ?_⟩
        refine ⟨(2, (61 - (m + 1)), 0), zlt6 (by omega), [some (zvr (k)), some (zvi (zct (cuIr E) (m + 1))), some (zvi ((m + 1)))], ⟨rfl, (congrArg (fun z => some (zvi z)) (by first | (rw [zct_t (show cuIr E m by unfold cuIr; omega)]; rfl) | (rw [zct_f (show ¬ cuIr E m by unfold cuIr; omega)]))), rfl, rfl⟩, (m + 1), rfl, rfl, rfl, rfl, rfl, rfl, (by omega), ?_, (fun c j h0 => (zxu h0 ((fr c j h0).trans rfl)))⟩
        · intro q hq hr
          by_cases e : q = m
          · subst e
            first
            | exact zxe
            | (exfalso; unfold cuIr at hr; omega)
          · first
            | exact zxs (by omega) (ho q (by omega) hr)
            | exact ho q (by omega) hr
  · rintro nM lsM stM I1 L1 R1 S1 hz1 ⟨m, rfl, rfl, rfl, rfl, rfl, rfl, hm, ho, hL1, hL2, fr⟩
    refine And.intro (zDX hD 0 rfl) (zrd (v := n) ((fr k 6 (by omega) (by omega)).trans hn) ?_)
    refine And.intro ⟨(by omega), (by omega)⟩ ⟨fun h45 => ?_, fun h45 => ?_⟩
    · refine hQ _ (fun p hp => hL1 p (by omega)) (fun c j h0 h1 => ((fr c j h0 h1).trans rfl))
    · refine And.intro (zDX hD 0 rfl) (zrdR (v := some (k + 4)) (zDR hD 2 rfl) ?_)
      refine And.intro (zDX hD 0 rfl) (zrdR (v := some (k + 9)) (zDR hD 6 rfl) ?_)
      refine And.intro (zDX hD 0 rfl) (zrdR (v := some (k + 4)) (zDR hD 2 rfl) ?_)
      refine And.intro (zDP hD 4 rfl rfl (by omega) (by omega)) (fun v62 e62 r62 => ?_)
      have f62 : v62 = cuRo E m := (e62.trans ((congrArg (I1 (k + 4)) (by omega)).trans ((hL2 m (Nat.le_refl m)).trans (zLb_r hLb (p := m) (by omega)))))
      have f62b : 0 ≤ v62 ∧ v62 ≤ m := (by have z := hLb.1 m (by omega); have z2 := zLb_r hLb (p := m) (by omega); omega)
      refine And.intro (zDP hD 9 rfl rfl (by omega) (by omega)) (fun v63 e63 r63 => ?_)
      have f63 : v63 = cuNo E m := (e63.trans ((congrArg (I1 (k + 9)) (by omega)).trans (ho (cuRo E m) (by omega) (by have z := hLb.1 m (by omega); have z2 := zLb_r hLb (p := m) (by omega); have z3 := zLb_r hLb (p := cuRo E m) (by omega); unfold cuIr; have z4 := z.2.2.1; rw [z2, Int.toNat_natCast, z3] at z4; omega))))
      refine And.intro ⟨(by show 40 ≤ _; omega), (zDP hD 4 rfl rfl (by omega) (by omega))⟩ ⟨_, (zWi r63), ?_⟩
      refine ⟨(1, (61 - (m + 1)), 0), zlt6 (by omega), [some (zvr (k)), none, some (zvi ((m + 1)))], ⟨rfl, rfl, rfl⟩, (m + 1), rfl, rfl, rfl, rfl, rfl, rfl, (by omega), (fun q hq hr => zxu (by omega) (ho q hq hr)), ?_, (fun p hp => zxs (by omega) (hL2 p (by omega))), (fun c j h0 h1 => (zxu h0 ((fr c j h0 h1).trans rfl)))⟩
      · intro p hp
        by_cases e : p = m
        · subst e
          exact zxe.trans f63
        · exact zxs (by omega) (hL1 p (by omega)))
def T_U_pcs : ZT := fun args I L R S Q => ∃ (k : Nat) (w : List CuR), args = [zvr k] ∧ (zSh S) ∧ (zRs R) ∧ (zSt I L) ∧ (zDy zT1 zF1 k R S) ∧ (k = 106 ∨ k = 118) ∧ (zUw k w I) ∧ (w.length ≤ 60) ∧ (cuG w) ∧ ∀ (I' : ZI), (zUp k w I') → (∀ c j : Nat, ¬ (c = k ∧ j = 6) → ¬ c = k + 3 → ¬ c = k + 4 → ¬ c = k + 9 → I' c j = I c j) → Q none I' L R S
theorem sn_U_pcs : ZSnd 5 1 21 T_U_pcs := ZSnd.loops (zT1_21 4) (by
  rintro args I L R S Q hz ⟨k, w, rfl, hS, hR, hT, hD, hk, hW, hl, hG, hQ⟩
  have hk106 : 106 ≤ k := by omega
  have hk118 : k ≤ 118 := by omega
  have hT1 := zUw_T hW hl
  have hN := hT1.2.1
  have hnp : cuNp w ≤ 60 := Nat.le_trans (zct_le _ _) hl
  refine ⟨[7, 68, 80], fun nM tM lsM stM I1 L1 R1 S1 => match tM with
      | 7 => ∃ (m : Nat), nM = (3, (61 - m), 0) ∧ lsM = [some (zvr (k)), some (zvi (m)), none] ∧ stM = [] ∧ L1 = L ∧ R1 = R ∧ S1 = S ∧ (m ≤ w.length) ∧ (I1 k 6 = zct (cuPn w) m) ∧ (∀ s : Nat, s < m → cuPn w s → I1 (k + 3) (zct (cuPn w) s) = s) ∧ (∀ p : Nat, p < zct (cuPn w) m → I1 (k + 4) p = p) ∧ (∀ c j : Nat, ¬ (c = k ∧ j = 6) → ¬ c = k + 3 → ¬ c = k + 4 → I1 c j = I c j)
      | 68 => ∃ (a : Nat), nM = (2, (61 - a), 100) ∧ lsM = [some (zvr (k)), some (zvi (a)), none] ∧ stM = [] ∧ L1 = L ∧ R1 = R ∧ S1 = S ∧ (a ≤ cuNp w) ∧ (I1 k 6 = cuNp w) ∧ (∀ p : Nat, p < cuNp w → I1 (k + 3) p = cuPx w p) ∧ (zLb (cuNp w) (cuEd (cuNp w) (cuTT w) a (a + 1)) (I1 (k + 4))) ∧ (∀ c j : Nat, ¬ (c = k ∧ j = 6) → ¬ c = k + 3 → ¬ c = k + 4 → I1 c j = I c j)
      | 80 => ∃ (a : Nat) (b : Nat), nM = (2, (61 - a), (61 - b)) ∧ lsM = [some (zvr (k)), some (zvi (a)), some (zvi (b))] ∧ stM = [] ∧ L1 = L ∧ R1 = R ∧ S1 = S ∧ (a < cuNp w) ∧ (a < b ∧ b ≤ cuNp w) ∧ (I1 k 6 = cuNp w) ∧ (∀ p : Nat, p < cuNp w → I1 (k + 3) p = cuPx w p) ∧ (zLb (cuNp w) (cuEd (cuNp w) (cuTT w) a b) (I1 (k + 4))) ∧ (∀ c j : Nat, ¬ (c = k ∧ j = 6) → ¬ c = k + 3 → ¬ c = k + 4 → I1 c j = I c j)
      | _ => False, rfl, ?_, ⟨?_, ?_, ?_, True.intro⟩⟩
  · refine And.intro (zDX hD 0 rfl) ⟨_, (zWi (zRb rfl)), ?_⟩
    refine ⟨(3, (61 - (0 : Nat)), 0), [some (zvr (k)), some (zvi ((0 : Nat))), none], ⟨rfl, rfl, rfl⟩, 0, rfl, rfl, rfl, rfl, rfl, rfl, (by omega), zxe, (fun s h => absurd h (Nat.not_lt_zero s)), (fun p h => absurd h (Nat.not_lt_zero p)), (fun c j h0 h1 h2 => (zxcj h0 rfl))⟩
  · rintro nM lsM stM I1 L1 R1 S1 hz1 ⟨m, rfl, rfl, rfl, rfl, rfl, rfl, hm, h6, hp1, hp2, fr⟩
    have hz1 := zct_le (cuPn w) m
    refine And.intro (zDX hD 0 rfl) (zrdR (v := some (k + 1)) (zDR hD 0 rfl) ?_)
    refine And.intro (zDX hD 1 rfl) (zrd (v := (w.length)) ((fr (k + 1) 2 (by omega) (by omega) (by omega)).trans hN) ?_)
    refine And.intro ⟨(by omega), (by omega)⟩ ⟨fun h15 => ?_, fun h15 => ?_⟩
    · refine ⟨(2, (61 - (0 : Nat)), 100), zlt6 (by omega), [some (zvr (k)), some (zvi ((0 : Nat))), none], ⟨rfl, rfl, rfl⟩, 0, rfl, rfl, rfl, rfl, rfl, rfl, (by omega), (by have e : m = w.length := (by omega); subst e; exact h6), ?_, ?_, (fun c j h0 h1 h2 => ((fr c j h0 h1 h2).trans rfl))⟩
      · have e : m = w.length := (by omega)
        subst e
        intro p hp
        have z := cuPx_b hp
        have z2 := hp1 (cuPx w p) z.1 z.2.1
        rw [z.2.2] at z2
        exact z2
      · have e : m = w.length := (by omega)
        subst e
        exact zLb_0 cuEd_0 hp2
    · refine And.intro (zDX hD 0 rfl) ⟨_, sn_U_cls.up (by decide), ?_⟩
      refine ⟨_, w, (m : Int), m, rfl, hS, hR, hD, (by first | exact hk | (clear hQ; grind [xu])), (by first | exact (zUw_fr hW (fun c j h => ((fr c j (by omega) (by omega) (by omega)).trans rfl))) | (clear hQ; grind [xu])), (by omega), (by first | exact hG | (clear hQ; grind [xu])), (by omega), ?_⟩
      intro v20o p20hv p20bhv2
      refine And.intro ⟨(by omega), (zRb rfl)⟩ ⟨fun h24 => ?_, fun h24 => ?_⟩
      · have t24 : ¬ cuPn w m := (by unfold cuPn; omega)
        refine ⟨(3, (61 - (m + 1)), 0), zlt6 (by omega), [some (zvr (k)), some (zvi ((m + 1))), none], ⟨rfl, rfl, rfl⟩, (m + 1), rfl, rfl, rfl, rfl, rfl, rfl, (by omega), (by first | exact zxe.trans (by rw [zct_t t24]; omega) | (rw [zct_f t24]; exact h6)), ?_, ?_, (fun c j h0 h1 h2 => ((fr c j h0 h1 h2).trans rfl))⟩
        · intro s hs hr
          by_cases e : s = m
          · subst e
            first
            | exact zxu (by omega) (zxu (by omega) zxe)
            | exact absurd hr t24
          · have z := zct_lt2 (show s < m by omega) hr
            first
            | exact zxu (by omega) (zxu (by omega) (zxs (by omega) (hp1 s (by omega) hr)))
            | exact hp1 s (by omega) hr
        · intro p hp
          first
          | (rw [zct_t t24] at hp
             by_cases e : p = zct (cuPn w) m
             · rw [e]
               exact zxu (by omega) zxe
             · exact zxu (by omega) (zxs (by omega) (zxu (by omega) (hp2 p (by omega)))))
          | (rw [zct_f t24] at hp
             exact hp2 p hp)
      · have t24 : cuPn w m := (by unfold cuPn; omega)
        refine And.intro (zDX hD 0 rfl) (zrdR (v := some (k + 3)) (zDR hD 1 rfl) ?_)
        refine And.intro (zDX hD 0 rfl) (zrd (v := (zct (cuPn w) m)) h6 ?_)
        refine And.intro ⟨(by show 40 ≤ _; omega), (zDP hD 3 rfl rfl (by omega) (by omega))⟩ ⟨_, (zWi (by omega)), ?_⟩
        refine And.intro (zDX hD 0 rfl) (zrdR (v := some (k + 4)) (zDR hD 2 rfl) ?_)
        refine And.intro (zDX hD 0 rfl) (zrd (v := (zct (cuPn w) m)) (zxu (by omega) h6) ?_)
        refine And.intro (zDX hD 0 rfl) (zrd (v := (zct (cuPn w) m)) (zxu (by omega) h6) ?_)
        refine And.intro ⟨(by show 40 ≤ _; omega), (zDP hD 4 rfl rfl (by omega) (by omega))⟩ ⟨_, (zWi (by omega)), ?_⟩
        refine And.intro (zDX hD 0 rfl) (zrd (v := (zct (cuPn w) m)) (zxu (by omega) (zxu (by omega) h6)) ?_)
        refine And.intro (zDX hD 0 rfl) ⟨_, (zWi (by omega)), ?_⟩
        refine ⟨(3, (61 - (m + 1)), 0), zlt6 (by omega), [some (zvr (k)), some (zvi ((m + 1))), none], ⟨rfl, rfl, rfl⟩, (m + 1), rfl, rfl, rfl, rfl, rfl, rfl, (by omega), (by first | exact zxe.trans (by rw [zct_t t24]; omega) | (rw [zct_f t24]; exact h6)), ?_, ?_, (fun c j h0 h1 h2 => (zxcj h0 (zxu h2 (zxu h1 ((fr c j h0 h1 h2).trans rfl)))))⟩
        · intro s hs hr
          by_cases e : s = m
          · subst e
            first
            | exact zxu (by omega) (zxu (by omega) zxe)
            | exact absurd hr t24
          · have z := zct_lt2 (show s < m by omega) hr
            first
            | exact zxu (by omega) (zxu (by omega) (zxs (by omega) (hp1 s (by omega) hr)))
            | exact hp1 s (by omega) hr
        · intro p hp
          first
          | (rw [zct_t t24] at hp
             by_cases e : p = zct (cuPn w) m
             · rw [e]
               exact zxu (by omega) zxe
             · exact zxu (by omega) (zxs (by omega) (zxu (by omega) (hp2 p (by omega)))))
          | (rw [zct_f t24] at hp
             exact hp2 p hp)
  · rintro nM lsM stM I1 L1 R1 S1 hz1 ⟨a, rfl, rfl, rfl, rfl, rfl, rfl, hm, h6, hpx, hLb, fr⟩
    refine And.intro (zDX hD 0 rfl) (zrd (v := (cuNp w)) h6 ?_)
    refine And.intro ⟨(by omega), (by omega)⟩ ⟨fun h73 => ?_, fun h73 => ?_⟩
    · refine And.intro (zDX hD 0 rfl) ⟨_, sn_U_num.up (by decide), ?_⟩
      refine ⟨_, (cuNp w), (cuEE w), rfl, hS, hR, hD, (by first | exact hk | (clear hQ; grind [xu])), h6, (by omega), (zLb_e hLb (cuEd_e (by omega))), ?_⟩
      intro I155o p155hL p155bfr
      refine hQ _ ⟨(p155bfr _ _ (by omega) (by omega)).trans h6, fun p hp => (p155bfr _ _ (by omega) (by omega)).trans (hpx p hp), p155hL⟩ (fun c j h0 h1 h2 h3 => ((p155bfr c j h2 h3).trans ((fr c j h0 h1 h2).trans rfl)))
    · refine ⟨(2, (61 - a), (61 - (a + 1))), zlt6 (by omega), [some (zvr (k)), some (zvi (a)), some (zvi ((a + 1)))], ⟨rfl, rfl, rfl, rfl⟩, a, (a + 1), rfl, rfl, rfl, rfl, rfl, rfl, (by omega), (by omega), (Eq.trans (b := ((cuNp w) : Int)) h6 (by omega)), hpx, hLb, (fun c j h0 h1 h2 => ((fr c j h0 h1 h2).trans rfl))⟩
  · rintro nM lsM stM I1 L1 R1 S1 hz1 ⟨a, b, rfl, rfl, rfl, rfl, rfl, rfl, hm, hab, h6, hpx, hLb, fr⟩
    refine And.intro (zDX hD 0 rfl) (zrd (v := (cuNp w)) h6 ?_)
    refine And.intro ⟨(by omega), (by omega)⟩ ⟨fun h85 => ?_, fun h85 => ?_⟩
    · refine ⟨(2, (61 - (a + 1)), 100), zlt6 (by omega), [some (zvr (k)), some (zvi ((a + 1))), none], ⟨rfl, rfl, rfl⟩, (a + 1), rfl, rfl, rfl, rfl, rfl, rfl, (by omega), (Eq.trans (b := ((cuNp w) : Int)) h6 (by omega)), hpx, (zLb_e hLb (cuEd_i (by omega))), (fun c j h0 h1 h2 => ((fr c j h0 h1 h2).trans rfl))⟩
    · refine And.intro (zDX hD 0 rfl) (zrdR (v := some (k + 4)) (zDR hD 2 rfl) ?_)
      refine And.intro (zDP hD 4 rfl rfl (by omega) (by omega)) (fun v93 e93 r93 => ?_)
      have f93 : v93 = I1 (k + 4) a := (e93.trans (congrArg (I1 (k + 4)) (by omega)))
      refine And.intro (zDX hD 0 rfl) (zrdR (v := some (k + 4)) (zDR hD 2 rfl) ?_)
      refine And.intro (zDP hD 4 rfl rfl (by omega) (by omega)) (fun v99 e99 r99 => ?_)
      have f99 : v99 = I1 (k + 4) b := (e99.trans (congrArg (I1 (k + 4)) (by omega)))
      refine And.intro ⟨r93, r99⟩ ⟨fun h100 => ?_, fun h100 => ?_⟩
      · refine ⟨(2, (61 - a), (61 - (b + 1))), zlt6 (by omega), [some (zvr (k)), some (zvi (a)), some (zvi ((b + 1)))], ⟨rfl, rfl, rfl, rfl⟩, a, (b + 1), rfl, rfl, rfl, rfl, rfl, rfl, (by omega), (by omega), (Eq.trans (b := ((cuNp w) : Int)) h6 (by omega)), (fun p hp => by first | exact (p139bfr _ _ (by omega)).trans (hpx p hp) | exact hpx p hp), ?_, (fun c j h0 h1 h2 => ((fr c j h0 h1 h2).trans rfl))⟩
        · first
          | exact zLb_k hLb hab.1 (by omega) (Or.inl (by omega))
          | exact zLb_m hLb hab.1 (by omega) (by rcases p116hv with z | z; exact z.2; omega) (by rw [← f128, ← f134]; exact p139hL)
          | exact zLb_k hLb hab.1 (by omega) (Or.inr (fun q => by rcases p116hv with z | z; omega; exact z.2 q))
      · refine And.intro (zDX hD 0 rfl) (zrdR (v := some (k + 3)) (zDR hD 1 rfl) ?_)
        refine And.intro (zDP hD 3 rfl rfl (by omega) (by omega)) (fun v109 e109 r109 => ?_)
        have f109 : v109 = cuPx w a := (e109.trans ((congrArg (I1 (k + 3)) (by omega)).trans (hpx a (by omega))))
        have f109b : v109 + 1 ≤ w.length := (by have z := cuPx_b (w := w) (p := a) (by omega); omega)
        refine And.intro (zDX hD 0 rfl) (zrdR (v := some (k + 3)) (zDR hD 1 rfl) ?_)
        refine And.intro (zDP hD 3 rfl rfl (by omega) (by omega)) (fun v115 e115 r115 => ?_)
        have f115 : v115 = cuPx w b := (e115.trans ((congrArg (I1 (k + 3)) (by omega)).trans (hpx b (by omega))))
        have f115b : v115 + 1 ≤ w.length := (by have z := cuPx_b (w := w) (p := b) (by omega); omega)
        refine And.intro (zDX hD 0 rfl) ⟨_, sn_U_tch.up (by decide), ?_⟩
        refine ⟨_, w, (v109 : Int), (cuPx w a), (v115 : Int), (cuPx w b), rfl, hS, hR, (zStf hT (fun c j h1 h2 => ⟨((fr c j (by omega) (by omega) (by omega)).trans rfl), rfl⟩)), hD, (by first | exact hk | (clear hQ; grind [xu])), (by first | exact (zUw_fr hW (fun c j h => ((fr c j (by omega) (by omega) (by omega)).trans rfl))) | (clear hQ; grind [xu])), (by omega), (by first | exact hG | (clear hQ; grind [xu])), (by omega), (by omega), ?_⟩
        intro v116o p116hv
        refine And.intro (by omega) ⟨fun h119 => ?_, fun h119 => ?_⟩
        · refine ⟨(2, (61 - a), (61 - (b + 1))), zlt6 (by omega), [some (zvr (k)), some (zvi (a)), some (zvi ((b + 1)))], ⟨rfl, rfl, rfl, rfl⟩, a, (b + 1), rfl, rfl, rfl, rfl, rfl, rfl, (by omega), (by omega), (Eq.trans (b := ((cuNp w) : Int)) h6 (by omega)), (fun p hp => by first | exact (p139bfr _ _ (by omega)).trans (hpx p hp) | exact hpx p hp), ?_, (fun c j h0 h1 h2 => ((fr c j h0 h1 h2).trans rfl))⟩
          · first
            | exact zLb_k hLb hab.1 (by omega) (Or.inl (by omega))
            | exact zLb_m hLb hab.1 (by omega) (by rcases p116hv with z | z; exact z.2; omega) (by rw [← f128, ← f134]; exact p139hL)
            | exact zLb_k hLb hab.1 (by omega) (Or.inr (fun q => by rcases p116hv with z | z; omega; exact z.2 q))
        · refine And.intro (zDX hD 0 rfl) (zrdR (v := some (k + 4)) (zDR hD 2 rfl) ?_)
          refine And.intro (zDP hD 4 rfl rfl (by omega) (by omega)) (fun v128 e128 r128 => ?_)
          have f128 : v128 = I1 (k + 4) a := (e128.trans (congrArg (I1 (k + 4)) (by omega)))
          refine And.intro (zDX hD 0 rfl) (zrdR (v := some (k + 4)) (zDR hD 2 rfl) ?_)
          refine And.intro (zDP hD 4 rfl rfl (by omega) (by omega)) (fun v134 e134 r134 => ?_)
          have f134 : v134 = I1 (k + 4) b := (e134.trans (congrArg (I1 (k + 4)) (by omega)))
          refine And.intro (zDX hD 0 rfl) (zrd (v := (cuNp w)) h6 ?_)
          refine And.intro (zDX hD 0 rfl) ⟨_, sn_U_jcp.up (by decide), ?_⟩
          refine ⟨_, (v128 : Int), (v134 : Int), ((cuNp w) : Int), (cuNp w), rfl, hS, hR, hD, (by first | exact hk | (clear hQ; grind [xu])), (by omega), (by omega), ?_⟩
          intro I139o p139hL p139bfr
          refine ⟨(2, (61 - a), (61 - (b + 1))), zlt6 (by omega), [some (zvr (k)), some (zvi (a)), some (zvi ((b + 1)))], ⟨rfl, rfl, rfl, rfl⟩, a, (b + 1), rfl, rfl, rfl, rfl, rfl, rfl, (by omega), (by omega), (Eq.trans (b := ((cuNp w) : Int)) ((p139bfr k 6 (by omega)).trans h6) (by omega)), (fun p hp => by first | exact (p139bfr _ _ (by omega)).trans (hpx p hp) | exact hpx p hp), ?_, (fun c j h0 h1 h2 => ((p139bfr c j h2).trans ((fr c j h0 h1 h2).trans rfl)))⟩
          · first
            | exact zLb_k hLb hab.1 (by omega) (Or.inl (by omega))
            | exact zLb_m hLb hab.1 (by omega) (by rcases p116hv with z | z; exact z.2; omega) (by rw [← f128, ← f134]; exact p139hL)
            | exact zLb_k hLb hab.1 (by omega) (Or.inr (fun q => by rcases p116hv with z | z; omega; exact z.2 q)))
