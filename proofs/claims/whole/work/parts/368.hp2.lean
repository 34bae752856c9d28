/-! hp2 -/
def T_A_least : ZT := fun args I L R S Q => ∃ (z : Nat) (h : Nat → Int), args = [zvr 98] ∧ (zSh S) ∧ (zRs R) ∧ (I 98 5 = z) ∧ (1 ≤ z ∧ z ≤ 7168) ∧ (∀ j : Nat, j < z → L 102 j = h j) ∧ (hpO h z) ∧ ∀ (v : Int) (I' : ZI) (L' : ZI), (v = h 0) → (r64 v) → (I' 98 5 = z - 1) → (hpO (L' 102) (z - 1)) → (hpDel h z (L' 102)) → (hpI h z → hpI (L' 102) (z - 1)) → (hpI h z → ∀ j : Nat, j < z - 1 → L' 102 j ≠ h 0) → (∀ c j : Nat, ¬ (c = 98 ∧ j = 5) → I' c j = I c j) → (∀ c j : Nat, ¬ c = 102 → L' c j = L c j) → Q (some (zvl (v))) I' L' R S
theorem sn_A_least : ZSnd 1 6 16 T_A_least := ZSnd.loops (zT6_16 0) (by
  rintro args I L R S Q hz ⟨z, h, rfl, hS, hR, hz, hz7, hh, hO, hQ⟩
  refine ⟨[33], fun nM tM lsM stM I1 L1 R1 S1 => match tM with
      | 33 => ∃ (p : Int), nM = ((8000 - p.toNat), 0, 0) ∧ lsM = [some (zvr (98)), some (zvl (h 0)), none, some (zvl (h (z - 1))), none, some (zvi (p)), some (zvi (2 * p + 1))] ∧ stM = [] ∧ R1 = R ∧ S1 = S ∧ (r64 (h 0) ∧ r64 (h (z - 1))) ∧ (0 ≤ p ∧ (p < z - 1 ∨ p = 0)) ∧ (I1 98 5 = z - 1) ∧ (∀ j : Nat, 0 < j → j < z - 1 → j ≠ p.toNat → (j - 1) / 2 ≠ p.toNat → L1 102 ((j - 1) / 2) ≤ L1 102 j) ∧ (∀ j : Nat, 0 < j → j < z - 1 → (j - 1) / 2 = p.toNat → 0 < p → L1 102 ((p.toNat - 1) / 2) ≤ L1 102 j) ∧ (0 < p → L1 102 ((p.toNat - 1) / 2) ≤ h (z - 1)) ∧ (∀ j : Nat, j < z - 1 → j ≠ p.toNat → zex (fun i => i < z ∧ h i = L1 102 j)) ∧ (∀ i : Nat, i < z → h i ≠ h 0 → h i = h (z - 1) ∨ zex (fun j => j < z - 1 ∧ j ≠ p.toNat ∧ L1 102 j = h i)) ∧ (hpI h z → ∀ i j : Nat, i < z - 1 → j < z - 1 → i ≠ p.toNat → j ≠ p.toNat → i ≠ j → L1 102 i ≠ L1 102 j) ∧ (hpI h z → ∀ j : Nat, j < z - 1 → j ≠ p.toNat → L1 102 j ≠ h (z - 1)) ∧ (hpI h z → ∀ j : Nat, j < z - 1 → j ≠ p.toNat → L1 102 j ≠ h 0) ∧ (∀ c j : Nat, ¬ (c = 98 ∧ j = 5) → I1 c j = I c j) ∧ (∀ c j : Nat, ¬ c = 102 → L1 c j = L c j)
      | _ => False, rfl, ?_, ⟨?_, True.intro⟩⟩
  · refine And.intro (zA_98 hS) (zrdR (v := some 102) (zR_98_4 hR) ?_)
    refine And.intro (zP_102 hS (by omega) (by omega)) (fun v5 e5 r5 => ?_)
    have f5 : v5 = h 0 := (e5.trans (hh 0 (by omega)))
    refine And.intro (zA_98 hS) (zrd (v := z) hz ?_)
    refine And.intro (zA_98 hS) ⟨_, (zWi (by omega)), ?_⟩
    refine And.intro (zA_98 hS) (zrdR (v := some 102) (zR_98_4 hR) ?_)
    refine And.intro (zA_98 hS) (zrd (v := (z - 1)) rfl ?_)
    refine And.intro (zP_102 hS (by omega) (by omega)) (fun v25 e25 r25 => ?_)
    have f25 : v25 = h (z - 1) := (e25.trans ((congrArg (L 102) (by omega)).trans (hh (z - 1) (by omega))))
    refine ⟨((8000 - (0 : Int).toNat), 0, 0), [some (zvr (98)), some (zvl (h 0)), none, some (zvl (h (z - 1))), none, some (zvi ((0 : Int))), some (zvi (2 * (0 : Int) + 1))], ⟨rfl, (congrArg (fun z => some (zvl z)) f5), (congrArg (fun z => some (zvl z)) f25), rfl, (congrArg (fun z => some (zvi z)) (by omega)), rfl⟩, 0, rfl, rfl, rfl, rfl, rfl, ⟨by rw [← f5]; exact r5, by rw [← f25]; exact r25⟩, (by clear hQ; grind [xu]), (Eq.trans (b := ((z - 1) : Int)) rfl (by omega)), (fun j h1 h2 h3 h4 => by rw [hh _ (by omega), hh j (by omega)]; exact hO j h1 (by omega)), (fun j h1 h2 h3 h4 => absurd h4 (by decide)), (fun h => absurd h (by decide)), (fun j h1 h2 => Exists.intro j ⟨by omega, (hh j (by omega)).symm⟩), (fun i hi hne => by
  by_cases e : i = z - 1
  · left
    rw [e]
  · right
    have e0 : i ≠ 0 := fun q => hne (by rw [q])
    exact Exists.intro i ⟨by omega, by omega, hh i hi⟩), (fun hi i j h1 h2 h3 h4 h5 => by rw [hh i (by omega), hh j (by omega)]; exact hi i j (by omega) (by omega) h5), (fun hi j h1 h2 => by rw [hh j (by omega)]; exact hi j (z - 1) (by omega) (by omega) (by omega)), (fun hi j h1 h2 => by rw [hh j (by omega)]; exact hi j 0 (by omega) (by omega) (by omega)), (fun c j h0 => (zxcj h0 rfl)), (fun c j h0 => rfl)⟩
  · rintro nM lsM stM I1 L1 R1 S1 hz1 ⟨p, rfl, rfl, rfl, rfl, rfl, hr0, hp, hz5, o1, o2, o3, m1, m2, mi, mv, mz, fr, frL⟩
    refine And.intro (zA_98 hS) (zrd (v := (z - 1)) hz5 ?_)
    refine And.intro ⟨(by omega), (by omega)⟩ ⟨fun h39 => ?_, fun h39 => ?_⟩
    · refine And.intro (zA_98 hS) (zrdR (v := some 102) (zR_98_4 hR) ?_)
      refine And.intro ⟨(zx0 rfl), (zP_102 hS (by omega) (by omega))⟩ ⟨_, zW6i (by omega), ?_⟩
      refine hQ _ _ _ (by omega) hr0.1 (Eq.trans (b := ((z - 1) : Int)) hz5 (by omega)) ?_ ?_ ?_ ?_ (fun c j h0 => ((fr c j (by omega)).trans rfl)) (fun c j h0 => (zxu h0 ((frL c j (by omega)).trans rfl)))
      · have up : ∀ q : Nat, q ≠ p.toNat → xu L1 102 p.toNat (h (z - 1)) 102 q = L1 102 q := fun q hq => zxs hq rfl
        have at_ : xu L1 102 p.toNat (h (z - 1)) 102 p.toNat = (h (z - 1)) := zxe
        intro j h1 h2
        refine (show xu L1 102 p.toNat (h (z - 1)) 102 ((j - 1) / 2) ≤ xu L1 102 p.toNat (h (z - 1)) 102 j from ?_)
        by_cases q1 : j = p.toNat
        · rw [q1, at_, up _ (by omega)]
          exact o3 (by omega)
        · rw [up j q1]
          by_cases q2 : (j - 1) / 2 = p.toNat
          · rw [q2, at_]
            first
            | (exfalso; omega)
            | (have ec : v82 = L1 102 (2 * p + 1 + 1 : Int).toNat := e82
               have hmin : ∀ j : Nat, 0 < j → j < z - 1 → (j - 1) / 2 = p.toNat → L1 102 (2 * p + 1 + 1 : Int).toNat ≤ L1 102 j := by
                 intro j h1 h2 h3
                 have z9 : j = 2 * p.toNat + 1 ∨ j = 2 * p.toNat + 2 := by omega
                 have w1 : v61 = L1 102 (2 * p.toNat + 2) := e61.trans (congrArg (L1 102) (by omega))
                 have w2 : v68 = L1 102 (2 * p.toNat + 1) := e68.trans (congrArg (L1 102) (by omega))
                 rw [show (2 * p + 1 + 1 : Int).toNat = 2 * p.toNat + 2 by omega]
                 rcases z9 with rfl | rfl
                 · omega
                 · exact Int.le_refl _
               have w := hmin j h1 h2 q2
               omega)
            | (have ec : v82 = L1 102 (2 * p + 1 : Int).toNat := e82
               have hmin : ∀ j : Nat, 0 < j → j < z - 1 → (j - 1) / 2 = p.toNat → L1 102 (2 * p + 1 : Int).toNat ≤ L1 102 j := by
                 intro j h1 h2 h3
                 have z9 : j = 2 * p.toNat + 1 ∨ j = 2 * p.toNat + 2 := by omega
                 rw [show (2 * p + 1 : Int).toNat = 2 * p.toNat + 1 by omega]
                 rcases z9 with rfl | rfl
                 · exact Int.le_refl _
                 · first
                   | (exfalso; omega)
                   | (have w1 : v61 = L1 102 (2 * p.toNat + 2) := e61.trans (congrArg (L1 102) (by omega))
                      have w2 : v68 = L1 102 (2 * p.toNat + 1) := e68.trans (congrArg (L1 102) (by omega))
                      omega)
               have w := hmin j h1 h2 q2
               omega)
          · rw [up _ q2]
            exact o1 j h1 h2 q1 q2
      · have up : ∀ q : Nat, q ≠ p.toNat → xu L1 102 p.toNat (h (z - 1)) 102 q = L1 102 q := fun q hq => zxs hq rfl
        have at_ : xu L1 102 p.toNat (h (z - 1)) 102 p.toNat = (h (z - 1)) := zxe
        refine ⟨fun j h1 => ?_, fun i hi hne => ?_⟩
        · refine (show zex (fun i => i < z ∧ h i = xu L1 102 p.toNat (h (z - 1)) 102 j) from ?_)
          by_cases q1 : j = p.toNat
          · rw [q1, at_]
            exact Exists.intro (z - 1) ⟨by omega, rfl⟩
          · rw [up j q1]
            exact m1 j h1 q1
        · rcases m2 i hi hne with w | w
          · by_cases q0 : z - 1 = 0
            · exfalso
              have e0 : i = 0 := by omega
              exact hne (by rw [e0])
            · exact Exists.intro p.toNat ⟨by omega, at_.trans w.symm⟩
          · obtain ⟨j, a1, a2, a3⟩ := w
            exact Exists.intro j ⟨a1, (up j a2).trans a3⟩
      · intro hi
        have up : ∀ q : Nat, q ≠ p.toNat → xu L1 102 p.toNat (h (z - 1)) 102 q = L1 102 q := fun q hq => zxs hq rfl
        have at_ : xu L1 102 p.toNat (h (z - 1)) 102 p.toNat = (h (z - 1)) := zxe
        intro i j h1 h2 h5
        refine (show xu L1 102 p.toNat (h (z - 1)) 102 i ≠ xu L1 102 p.toNat (h (z - 1)) 102 j from ?_)
        by_cases q1 : i = p.toNat
        · rw [q1, at_, up j (by omega)]
          exact fun e => mv hi j h2 (by omega) e.symm
        · rw [up i q1]
          by_cases q2 : j = p.toNat
          · rw [q2, at_]
            exact mv hi i h1 q1
          · rw [up j q2]
            exact mi hi i j h1 h2 q1 q2 h5
      · intro hi
        have up : ∀ q : Nat, q ≠ p.toNat → xu L1 102 p.toNat (h (z - 1)) 102 q = L1 102 q := fun q hq => zxs hq rfl
        have at_ : xu L1 102 p.toNat (h (z - 1)) 102 p.toNat = (h (z - 1)) := zxe
        intro j h1
        refine (show xu L1 102 p.toNat (h (z - 1)) 102 j ≠ h 0 from ?_)
        by_cases q1 : j = p.toNat
        · rw [q1, at_]
          exact hi (z - 1) 0 (by omega) (by omega) (by omega)
        · rw [up j q1]
          exact mz hi j h1 q1
    · refine And.intro (zA_98 hS) (zrd (v := (z - 1)) hz5 ?_)
      refine And.intro ⟨(by omega), (by omega)⟩ ⟨fun h50 => ?_, fun h50 => ?_⟩
      · refine And.intro (zA_98 hS) (zrdR (v := some 102) (zR_98_4 hR) ?_)
        refine And.intro (zP_102 hS (by omega) (by omega)) (fun v82 e82 r82 => ?_)
        refine ⟨_, _, ⟨zW6i r82, zW6i (by omega)⟩, fun z84 c84 => ?_⟩
        refine And.intro c84.2.2 ⟨fun h85 => ?_, fun h85 => ?_⟩
        · refine And.intro (zA_98 hS) (zrdR (v := some 102) (zR_98_4 hR) ?_)
          refine And.intro (zA_98 hS) (zrdR (v := some 102) (zR_98_4 hR) ?_)
          refine And.intro (zP_102 hS (by omega) (by omega)) (fun v103 e103 r103 => ?_)
          refine And.intro ⟨(zx0 rfl), (zP_102 hS (by omega) (by omega))⟩ ⟨_, zW6i r103, ?_⟩
          refine ⟨((8000 - (2 * p + 1).toNat), 0, 0), zlt6 (by omega), [some (zvr (98)), some (zvl (h 0)), none, some (zvl (h (z - 1))), none, some (zvi ((2 * p + 1))), some (zvi (2 * (2 * p + 1) + 1))], ⟨rfl, rfl, rfl, rfl, (congrArg (fun z => some (zvi z)) (by omega)), rfl⟩, (2 * p + 1), rfl, rfl, rfl, rfl, rfl, hr0, (by omega), (Eq.trans (b := ((z - 1) : Int)) hz5 (by omega)), ?_, ?_, ?_, ?_, ?_, ?_, ?_, ?_, (fun c j h0 => ((fr c j (by omega)).trans rfl)), (fun c j h0 => (zxu h0 ((frL c j (by omega)).trans rfl)))⟩
          · first
            | (have ec : v82 = L1 102 (2 * p + 1 + 1 : Int).toNat := e82
               have hmin : ∀ j : Nat, 0 < j → j < z - 1 → (j - 1) / 2 = p.toNat → L1 102 (2 * p + 1 + 1 : Int).toNat ≤ L1 102 j := by
                 intro j h1 h2 h3
                 have z9 : j = 2 * p.toNat + 1 ∨ j = 2 * p.toNat + 2 := by omega
                 have w1 : v61 = L1 102 (2 * p.toNat + 2) := e61.trans (congrArg (L1 102) (by omega))
                 have w2 : v68 = L1 102 (2 * p.toNat + 1) := e68.trans (congrArg (L1 102) (by omega))
                 rw [show (2 * p + 1 + 1 : Int).toNat = 2 * p.toNat + 2 by omega]
                 rcases z9 with rfl | rfl
                 · omega
                 · exact Int.le_refl _
               have e1 : v103 = v82 := e103.trans e82.symm
               have up : ∀ q : Nat, q ≠ p.toNat → xu L1 102 p.toNat v103 102 q = L1 102 q := fun q hq => zxs hq rfl
               have at_ : xu L1 102 p.toNat v103 102 p.toNat = v103 := zxe
               intro j h1 h2 h3 h4
               refine (show xu L1 102 p.toNat v103 102 ((j - 1) / 2) ≤ xu L1 102 p.toNat v103 102 j from ?_)
               by_cases q1 : j = p.toNat
               · rw [q1, at_, up _ (by omega), e1, ec]
                 exact o2 (2 * p + 1 + 1 : Int).toNat (by omega) (by omega) (by omega) (by omega)
               · rw [up j q1]
                 by_cases q2 : (j - 1) / 2 = p.toNat
                 · rw [q2, at_, e1, ec]
                   exact hmin j h1 h2 q2
                 · rw [up _ q2]
                   exact o1 j h1 h2 q1 q2)
            | (have ec : v82 = L1 102 (2 * p + 1 : Int).toNat := e82
               have hmin : ∀ j : Nat, 0 < j → j < z - 1 → (j - 1) / 2 = p.toNat → L1 102 (2 * p + 1 : Int).toNat ≤ L1 102 j := by
                 intro j h1 h2 h3
                 have z9 : j = 2 * p.toNat + 1 ∨ j = 2 * p.toNat + 2 := by omega
                 rw [show (2 * p + 1 : Int).toNat = 2 * p.toNat + 1 by omega]
                 rcases z9 with rfl | rfl
                 · exact Int.le_refl _
                 · first
                   | (exfalso; omega)
                   | (have w1 : v61 = L1 102 (2 * p.toNat + 2) := e61.trans (congrArg (L1 102) (by omega))
                      have w2 : v68 = L1 102 (2 * p.toNat + 1) := e68.trans (congrArg (L1 102) (by omega))
                      omega)
               have e1 : v103 = v82 := e103.trans e82.symm
               have up : ∀ q : Nat, q ≠ p.toNat → xu L1 102 p.toNat v103 102 q = L1 102 q := fun q hq => zxs hq rfl
               have at_ : xu L1 102 p.toNat v103 102 p.toNat = v103 := zxe
               intro j h1 h2 h3 h4
               refine (show xu L1 102 p.toNat v103 102 ((j - 1) / 2) ≤ xu L1 102 p.toNat v103 102 j from ?_)
               by_cases q1 : j = p.toNat
               · rw [q1, at_, up _ (by omega), e1, ec]
                 exact o2 (2 * p + 1 : Int).toNat (by omega) (by omega) (by omega) (by omega)
               · rw [up j q1]
                 by_cases q2 : (j - 1) / 2 = p.toNat
                 · rw [q2, at_, e1, ec]
                   exact hmin j h1 h2 q2
                 · rw [up _ q2]
                   exact o1 j h1 h2 q1 q2)
          · first
            | (have ec : v82 = L1 102 (2 * p + 1 + 1 : Int).toNat := e82
               have hmin : ∀ j : Nat, 0 < j → j < z - 1 → (j - 1) / 2 = p.toNat → L1 102 (2 * p + 1 + 1 : Int).toNat ≤ L1 102 j := by
                 intro j h1 h2 h3
                 have z9 : j = 2 * p.toNat + 1 ∨ j = 2 * p.toNat + 2 := by omega
                 have w1 : v61 = L1 102 (2 * p.toNat + 2) := e61.trans (congrArg (L1 102) (by omega))
                 have w2 : v68 = L1 102 (2 * p.toNat + 1) := e68.trans (congrArg (L1 102) (by omega))
                 rw [show (2 * p + 1 + 1 : Int).toNat = 2 * p.toNat + 2 by omega]
                 rcases z9 with rfl | rfl
                 · omega
                 · exact Int.le_refl _
               have e1 : v103 = v82 := e103.trans e82.symm
               have up : ∀ q : Nat, q ≠ p.toNat → xu L1 102 p.toNat v103 102 q = L1 102 q := fun q hq => zxs hq rfl
               have at_ : xu L1 102 p.toNat v103 102 p.toNat = v103 := zxe
               intro j h1 h2 h3 h4
               refine (show xu L1 102 p.toNat v103 102 (((2 * p + 1 + 1 : Int).toNat - 1) / 2) ≤ xu L1 102 p.toNat v103 102 j from ?_)
               rw [show ((2 * p + 1 + 1 : Int).toNat - 1) / 2 = p.toNat by omega, at_, up j (by omega), e1, ec]
               have w := o1 j h1 h2 (by omega) (by omega)
               rw [h3] at w
               exact w)
            | (have ec : v82 = L1 102 (2 * p + 1 : Int).toNat := e82
               have hmin : ∀ j : Nat, 0 < j → j < z - 1 → (j - 1) / 2 = p.toNat → L1 102 (2 * p + 1 : Int).toNat ≤ L1 102 j := by
                 intro j h1 h2 h3
                 have z9 : j = 2 * p.toNat + 1 ∨ j = 2 * p.toNat + 2 := by omega
                 rw [show (2 * p + 1 : Int).toNat = 2 * p.toNat + 1 by omega]
                 rcases z9 with rfl | rfl
                 · exact Int.le_refl _
                 · first
                   | (exfalso; omega)
                   | (have w1 : v61 = L1 102 (2 * p.toNat + 2) := e61.trans (congrArg (L1 102) (by omega))
                      have w2 : v68 = L1 102 (2 * p.toNat + 1) := e68.trans (congrArg (L1 102) (by omega))
                      omega)
               have e1 : v103 = v82 := e103.trans e82.symm
               have up : ∀ q : Nat, q ≠ p.toNat → xu L1 102 p.toNat v103 102 q = L1 102 q := fun q hq => zxs hq rfl
               have at_ : xu L1 102 p.toNat v103 102 p.toNat = v103 := zxe
               intro j h1 h2 h3 h4
               refine (show xu L1 102 p.toNat v103 102 (((2 * p + 1 : Int).toNat - 1) / 2) ≤ xu L1 102 p.toNat v103 102 j from ?_)
               rw [show ((2 * p + 1 : Int).toNat - 1) / 2 = p.toNat by omega, at_, up j (by omega), e1, ec]
               have w := o1 j h1 h2 (by omega) (by omega)
               rw [h3] at w
               exact w)
          · first
            | (have ec : v82 = L1 102 (2 * p + 1 + 1 : Int).toNat := e82
               have hmin : ∀ j : Nat, 0 < j → j < z - 1 → (j - 1) / 2 = p.toNat → L1 102 (2 * p + 1 + 1 : Int).toNat ≤ L1 102 j := by
                 intro j h1 h2 h3
                 have z9 : j = 2 * p.toNat + 1 ∨ j = 2 * p.toNat + 2 := by omega
                 have w1 : v61 = L1 102 (2 * p.toNat + 2) := e61.trans (congrArg (L1 102) (by omega))
                 have w2 : v68 = L1 102 (2 * p.toNat + 1) := e68.trans (congrArg (L1 102) (by omega))
                 rw [show (2 * p + 1 + 1 : Int).toNat = 2 * p.toNat + 2 by omega]
                 rcases z9 with rfl | rfl
                 · omega
                 · exact Int.le_refl _
               have e1 : v103 = v82 := e103.trans e82.symm
               have up : ∀ q : Nat, q ≠ p.toNat → xu L1 102 p.toNat v103 102 q = L1 102 q := fun q hq => zxs hq rfl
               have at_ : xu L1 102 p.toNat v103 102 p.toNat = v103 := zxe
               intro h4
               refine (show xu L1 102 p.toNat v103 102 (((2 * p + 1 + 1 : Int).toNat - 1) / 2) ≤ h (z - 1) from ?_)
               rw [show ((2 * p + 1 + 1 : Int).toNat - 1) / 2 = p.toNat by omega, at_, e1]
               omega)
            | (have ec : v82 = L1 102 (2 * p + 1 : Int).toNat := e82
               have hmin : ∀ j : Nat, 0 < j → j < z - 1 → (j - 1) / 2 = p.toNat → L1 102 (2 * p + 1 : Int).toNat ≤ L1 102 j := by
                 intro j h1 h2 h3
                 have z9 : j = 2 * p.toNat + 1 ∨ j = 2 * p.toNat + 2 := by omega
                 rw [show (2 * p + 1 : Int).toNat = 2 * p.toNat + 1 by omega]
                 rcases z9 with rfl | rfl
                 · exact Int.le_refl _
                 · first
                   | (exfalso; omega)
                   | (have w1 : v61 = L1 102 (2 * p.toNat + 2) := e61.trans (congrArg (L1 102) (by omega))
                      have w2 : v68 = L1 102 (2 * p.toNat + 1) := e68.trans (congrArg (L1 102) (by omega))
                      omega)
               have e1 : v103 = v82 := e103.trans e82.symm
               have up : ∀ q : Nat, q ≠ p.toNat → xu L1 102 p.toNat v103 102 q = L1 102 q := fun q hq => zxs hq rfl
               have at_ : xu L1 102 p.toNat v103 102 p.toNat = v103 := zxe
               intro h4
               refine (show xu L1 102 p.toNat v103 102 (((2 * p + 1 : Int).toNat - 1) / 2) ≤ h (z - 1) from ?_)
               rw [show ((2 * p + 1 : Int).toNat - 1) / 2 = p.toNat by omega, at_, e1]
               omega)
          · first
            | (have ec : v82 = L1 102 (2 * p + 1 + 1 : Int).toNat := e82
               have hmin : ∀ j : Nat, 0 < j → j < z - 1 → (j - 1) / 2 = p.toNat → L1 102 (2 * p + 1 + 1 : Int).toNat ≤ L1 102 j := by
                 intro j h1 h2 h3
                 have z9 : j = 2 * p.toNat + 1 ∨ j = 2 * p.toNat + 2 := by omega
                 have w1 : v61 = L1 102 (2 * p.toNat + 2) := e61.trans (congrArg (L1 102) (by omega))
                 have w2 : v68 = L1 102 (2 * p.toNat + 1) := e68.trans (congrArg (L1 102) (by omega))
                 rw [show (2 * p + 1 + 1 : Int).toNat = 2 * p.toNat + 2 by omega]
                 rcases z9 with rfl | rfl
                 · omega
                 · exact Int.le_refl _
               have e1 : v103 = v82 := e103.trans e82.symm
               have up : ∀ q : Nat, q ≠ p.toNat → xu L1 102 p.toNat v103 102 q = L1 102 q := fun q hq => zxs hq rfl
               have at_ : xu L1 102 p.toNat v103 102 p.toNat = v103 := zxe
               intro j h1 h2
               refine (show zex (fun i => i < z ∧ h i = xu L1 102 p.toNat v103 102 j) from ?_)
               by_cases q1 : j = p.toNat
               · rw [q1, at_, e1, ec]
                 exact m1 (2 * p + 1 + 1 : Int).toNat (by omega) (by omega)
               · rw [up j q1]
                 exact m1 j h1 q1)
            | (have ec : v82 = L1 102 (2 * p + 1 : Int).toNat := e82
               have hmin : ∀ j : Nat, 0 < j → j < z - 1 → (j - 1) / 2 = p.toNat → L1 102 (2 * p + 1 : Int).toNat ≤ L1 102 j := by
                 intro j h1 h2 h3
                 have z9 : j = 2 * p.toNat + 1 ∨ j = 2 * p.toNat + 2 := by omega
                 rw [show (2 * p + 1 : Int).toNat = 2 * p.toNat + 1 by omega]
                 rcases z9 with rfl | rfl
                 · exact Int.le_refl _
                 · first
                   | (exfalso; omega)
                   | (have w1 : v61 = L1 102 (2 * p.toNat + 2) := e61.trans (congrArg (L1 102) (by omega))
                      have w2 : v68 = L1 102 (2 * p.toNat + 1) := e68.trans (congrArg (L1 102) (by omega))
                      omega)
               have e1 : v103 = v82 := e103.trans e82.symm
               have up : ∀ q : Nat, q ≠ p.toNat → xu L1 102 p.toNat v103 102 q = L1 102 q := fun q hq => zxs hq rfl
               have at_ : xu L1 102 p.toNat v103 102 p.toNat = v103 := zxe
               intro j h1 h2
               refine (show zex (fun i => i < z ∧ h i = xu L1 102 p.toNat v103 102 j) from ?_)
               by_cases q1 : j = p.toNat
               · rw [q1, at_, e1, ec]
                 exact m1 (2 * p + 1 : Int).toNat (by omega) (by omega)
               · rw [up j q1]
                 exact m1 j h1 q1)
          · first
            | (have ec : v82 = L1 102 (2 * p + 1 + 1 : Int).toNat := e82
               have hmin : ∀ j : Nat, 0 < j → j < z - 1 → (j - 1) / 2 = p.toNat → L1 102 (2 * p + 1 + 1 : Int).toNat ≤ L1 102 j := by
                 intro j h1 h2 h3
                 have z9 : j = 2 * p.toNat + 1 ∨ j = 2 * p.toNat + 2 := by omega
                 have w1 : v61 = L1 102 (2 * p.toNat + 2) := e61.trans (congrArg (L1 102) (by omega))
                 have w2 : v68 = L1 102 (2 * p.toNat + 1) := e68.trans (congrArg (L1 102) (by omega))
                 rw [show (2 * p + 1 + 1 : Int).toNat = 2 * p.toNat + 2 by omega]
                 rcases z9 with rfl | rfl
                 · omega
                 · exact Int.le_refl _
               have e1 : v103 = v82 := e103.trans e82.symm
               have up : ∀ q : Nat, q ≠ p.toNat → xu L1 102 p.toNat v103 102 q = L1 102 q := fun q hq => zxs hq rfl
               have at_ : xu L1 102 p.toNat v103 102 p.toNat = v103 := zxe
               intro i hi hne
               rcases m2 i hi hne with w | w
               · exact Or.inl w
               · right
                 obtain ⟨j, a1, a2, a3⟩ := w
                 by_cases q1 : j = (2 * p + 1 + 1 : Int).toNat
                 · refine Exists.intro p.toNat ⟨by omega, by omega, (show xu L1 102 p.toNat v103 102 p.toNat = h i from ?_)⟩
                   rw [at_, e1, ec, ← q1]
                   exact a3
                 · exact Exists.intro j ⟨a1, q1, (up j a2).trans a3⟩)
            | (have ec : v82 = L1 102 (2 * p + 1 : Int).toNat := e82
               have hmin : ∀ j : Nat, 0 < j → j < z - 1 → (j - 1) / 2 = p.toNat → L1 102 (2 * p + 1 : Int).toNat ≤ L1 102 j := by
                 intro j h1 h2 h3
                 have z9 : j = 2 * p.toNat + 1 ∨ j = 2 * p.toNat + 2 := by omega
                 rw [show (2 * p + 1 : Int).toNat = 2 * p.toNat + 1 by omega]
                 rcases z9 with rfl | rfl
                 · exact Int.le_refl _
                 · first
                   | (exfalso; omega)
                   | (have w1 : v61 = L1 102 (2 * p.toNat + 2) := e61.trans (congrArg (L1 102) (by omega))
                      have w2 : v68 = L1 102 (2 * p.toNat + 1) := e68.trans (congrArg (L1 102) (by omega))
                      omega)
               have e1 : v103 = v82 := e103.trans e82.symm
               have up : ∀ q : Nat, q ≠ p.toNat → xu L1 102 p.toNat v103 102 q = L1 102 q := fun q hq => zxs hq rfl
               have at_ : xu L1 102 p.toNat v103 102 p.toNat = v103 := zxe
               intro i hi hne
               rcases m2 i hi hne with w | w
               · exact Or.inl w
               · right
                 obtain ⟨j, a1, a2, a3⟩ := w
                 by_cases q1 : j = (2 * p + 1 : Int).toNat
                 · refine Exists.intro p.toNat ⟨by omega, by omega, (show xu L1 102 p.toNat v103 102 p.toNat = h i from ?_)⟩
                   rw [at_, e1, ec, ← q1]
                   exact a3
                 · exact Exists.intro j ⟨a1, q1, (up j a2).trans a3⟩)
          · first
            | (have ec : v82 = L1 102 (2 * p + 1 + 1 : Int).toNat := e82
               have hmin : ∀ j : Nat, 0 < j → j < z - 1 → (j - 1) / 2 = p.toNat → L1 102 (2 * p + 1 + 1 : Int).toNat ≤ L1 102 j := by
                 intro j h1 h2 h3
                 have z9 : j = 2 * p.toNat + 1 ∨ j = 2 * p.toNat + 2 := by omega
                 have w1 : v61 = L1 102 (2 * p.toNat + 2) := e61.trans (congrArg (L1 102) (by omega))
                 have w2 : v68 = L1 102 (2 * p.toNat + 1) := e68.trans (congrArg (L1 102) (by omega))
                 rw [show (2 * p + 1 + 1 : Int).toNat = 2 * p.toNat + 2 by omega]
                 rcases z9 with rfl | rfl
                 · omega
                 · exact Int.le_refl _
               have e1 : v103 = v82 := e103.trans e82.symm
               have up : ∀ q : Nat, q ≠ p.toNat → xu L1 102 p.toNat v103 102 q = L1 102 q := fun q hq => zxs hq rfl
               have at_ : xu L1 102 p.toNat v103 102 p.toNat = v103 := zxe
               intro hi i j h1 h2 h3 h4 h5
               refine (show xu L1 102 p.toNat v103 102 i ≠ xu L1 102 p.toNat v103 102 j from ?_)
               by_cases q1 : i = p.toNat
               · rw [q1, at_, up j (by omega), e1, ec]
                 exact mi hi _ j (by omega) h2 (by omega) (by omega) (by omega)
               · rw [up i q1]
                 by_cases q2 : j = p.toNat
                 · rw [q2, at_, e1, ec]
                   exact mi hi i _ h1 (by omega) q1 (by omega) (by omega)
                 · rw [up j q2]
                   exact mi hi i j h1 h2 q1 q2 h5)
            | (have ec : v82 = L1 102 (2 * p + 1 : Int).toNat := e82
               have hmin : ∀ j : Nat, 0 < j → j < z - 1 → (j - 1) / 2 = p.toNat → L1 102 (2 * p + 1 : Int).toNat ≤ L1 102 j := by
                 intro j h1 h2 h3
                 have z9 : j = 2 * p.toNat + 1 ∨ j = 2 * p.toNat + 2 := by omega
                 rw [show (2 * p + 1 : Int).toNat = 2 * p.toNat + 1 by omega]
                 rcases z9 with rfl | rfl
                 · exact Int.le_refl _
                 · first
                   | (exfalso; omega)
                   | (have w1 : v61 = L1 102 (2 * p.toNat + 2) := e61.trans (congrArg (L1 102) (by omega))
                      have w2 : v68 = L1 102 (2 * p.toNat + 1) := e68.trans (congrArg (L1 102) (by omega))
                      omega)
               have e1 : v103 = v82 := e103.trans e82.symm
               have up : ∀ q : Nat, q ≠ p.toNat → xu L1 102 p.toNat v103 102 q = L1 102 q := fun q hq => zxs hq rfl
               have at_ : xu L1 102 p.toNat v103 102 p.toNat = v103 := zxe
               intro hi i j h1 h2 h3 h4 h5
               refine (show xu L1 102 p.toNat v103 102 i ≠ xu L1 102 p.toNat v103 102 j from ?_)
               by_cases q1 : i = p.toNat
               · rw [q1, at_, up j (by omega), e1, ec]
                 exact mi hi _ j (by omega) h2 (by omega) (by omega) (by omega)
               · rw [up i q1]
                 by_cases q2 : j = p.toNat
                 · rw [q2, at_, e1, ec]
                   exact mi hi i _ h1 (by omega) q1 (by omega) (by omega)
                 · rw [up j q2]
                   exact mi hi i j h1 h2 q1 q2 h5)
          · first
            | (have ec : v82 = L1 102 (2 * p + 1 + 1 : Int).toNat := e82
               have hmin : ∀ j : Nat, 0 < j → j < z - 1 → (j - 1) / 2 = p.toNat → L1 102 (2 * p + 1 + 1 : Int).toNat ≤ L1 102 j := by
                 intro j h1 h2 h3
                 have z9 : j = 2 * p.toNat + 1 ∨ j = 2 * p.toNat + 2 := by omega
                 have w1 : v61 = L1 102 (2 * p.toNat + 2) := e61.trans (congrArg (L1 102) (by omega))
                 have w2 : v68 = L1 102 (2 * p.toNat + 1) := e68.trans (congrArg (L1 102) (by omega))
                 rw [show (2 * p + 1 + 1 : Int).toNat = 2 * p.toNat + 2 by omega]
                 rcases z9 with rfl | rfl
                 · omega
                 · exact Int.le_refl _
               have e1 : v103 = v82 := e103.trans e82.symm
               have up : ∀ q : Nat, q ≠ p.toNat → xu L1 102 p.toNat v103 102 q = L1 102 q := fun q hq => zxs hq rfl
               have at_ : xu L1 102 p.toNat v103 102 p.toNat = v103 := zxe
               intro hi j h1 h2
               refine (show xu L1 102 p.toNat v103 102 j ≠ h (z - 1) from ?_)
               by_cases q1 : j = p.toNat
               · rw [q1, at_, e1, ec]
                 exact mv hi _ (by omega) (by omega)
               · rw [up j q1]
                 exact mv hi j h1 q1)
            | (have ec : v82 = L1 102 (2 * p + 1 : Int).toNat := e82
               have hmin : ∀ j : Nat, 0 < j → j < z - 1 → (j - 1) / 2 = p.toNat → L1 102 (2 * p + 1 : Int).toNat ≤ L1 102 j := by
                 intro j h1 h2 h3
                 have z9 : j = 2 * p.toNat + 1 ∨ j = 2 * p.toNat + 2 := by omega
                 rw [show (2 * p + 1 : Int).toNat = 2 * p.toNat + 1 by omega]
                 rcases z9 with rfl | rfl
                 · exact Int.le_refl _
                 · first
                   | (exfalso; omega)
                   | (have w1 : v61 = L1 102 (2 * p.toNat + 2) := e61.trans (congrArg (L1 102) (by omega))
                      have w2 : v68 = L1 102 (2 * p.toNat + 1) := e68.trans (congrArg (L1 102) (by omega))
                      omega)
               have e1 : v103 = v82 := e103.trans e82.symm
               have up : ∀ q : Nat, q ≠ p.toNat → xu L1 102 p.toNat v103 102 q = L1 102 q := fun q hq => zxs hq rfl
               have at_ : xu L1 102 p.toNat v103 102 p.toNat = v103 := zxe
               intro hi j h1 h2
               refine (show xu L1 102 p.toNat v103 102 j ≠ h (z - 1) from ?_)
               by_cases q1 : j = p.toNat
               · rw [q1, at_, e1, ec]
                 exact mv hi _ (by omega) (by omega)
               · rw [up j q1]
                 exact mv hi j h1 q1)
          · first
            | (have ec : v82 = L1 102 (2 * p + 1 + 1 : Int).toNat := e82
               have hmin : ∀ j : Nat, 0 < j → j < z - 1 → (j - 1) / 2 = p.toNat → L1 102 (2 * p + 1 + 1 : Int).toNat ≤ L1 102 j := by
                 intro j h1 h2 h3
                 have z9 : j = 2 * p.toNat + 1 ∨ j = 2 * p.toNat + 2 := by omega
                 have w1 : v61 = L1 102 (2 * p.toNat + 2) := e61.trans (congrArg (L1 102) (by omega))
                 have w2 : v68 = L1 102 (2 * p.toNat + 1) := e68.trans (congrArg (L1 102) (by omega))
                 rw [show (2 * p + 1 + 1 : Int).toNat = 2 * p.toNat + 2 by omega]
                 rcases z9 with rfl | rfl
                 · omega
                 · exact Int.le_refl _
               have e1 : v103 = v82 := e103.trans e82.symm
               have up : ∀ q : Nat, q ≠ p.toNat → xu L1 102 p.toNat v103 102 q = L1 102 q := fun q hq => zxs hq rfl
               have at_ : xu L1 102 p.toNat v103 102 p.toNat = v103 := zxe
               intro hi j h1 h2
               refine (show xu L1 102 p.toNat v103 102 j ≠ h 0 from ?_)
               by_cases q1 : j = p.toNat
               · rw [q1, at_, e1, ec]
                 exact mz hi _ (by omega) (by omega)
               · rw [up j q1]
                 exact mz hi j h1 q1)
            | (have ec : v82 = L1 102 (2 * p + 1 : Int).toNat := e82
               have hmin : ∀ j : Nat, 0 < j → j < z - 1 → (j - 1) / 2 = p.toNat → L1 102 (2 * p + 1 : Int).toNat ≤ L1 102 j := by
                 intro j h1 h2 h3
                 have z9 : j = 2 * p.toNat + 1 ∨ j = 2 * p.toNat + 2 := by omega
                 rw [show (2 * p + 1 : Int).toNat = 2 * p.toNat + 1 by omega]
                 rcases z9 with rfl | rfl
                 · exact Int.le_refl _
                 · first
                   | (exfalso; omega)
                   | (have w1 : v61 = L1 102 (2 * p.toNat + 2) := e61.trans (congrArg (L1 102) (by omega))
                      have w2 : v68 = L1 102 (2 * p.toNat + 1) := e68.trans (congrArg (L1 102) (by omega))
                      omega)
               have e1 : v103 = v82 := e103.trans e82.symm
               have up : ∀ q : Nat, q ≠ p.toNat → xu L1 102 p.toNat v103 102 q = L1 102 q := fun q hq => zxs hq rfl
               have at_ : xu L1 102 p.toNat v103 102 p.toNat = v103 := zxe
               intro hi j h1 h2
               refine (show xu L1 102 p.toNat v103 102 j ≠ h 0 from ?_)
               by_cases q1 : j = p.toNat
               · rw [q1, at_, e1, ec]
                 exact mz hi _ (by omega) (by omega)
               · rw [up j q1]
                 exact mz hi j h1 q1)
        · refine And.intro (zA_98 hS) (zrdR (v := some 102) (zR_98_4 hR) ?_)
          refine And.intro ⟨(zx0 rfl), (zP_102 hS (by omega) (by omega))⟩ ⟨_, zW6i (by omega), ?_⟩
          refine hQ _ _ _ (by omega) hr0.1 (Eq.trans (b := ((z - 1) : Int)) hz5 (by omega)) ?_ ?_ ?_ ?_ (fun c j h0 => ((fr c j (by omega)).trans rfl)) (fun c j h0 => (zxu h0 ((frL c j (by omega)).trans rfl)))
          · have up : ∀ q : Nat, q ≠ p.toNat → xu L1 102 p.toNat (h (z - 1)) 102 q = L1 102 q := fun q hq => zxs hq rfl
            have at_ : xu L1 102 p.toNat (h (z - 1)) 102 p.toNat = (h (z - 1)) := zxe
            intro j h1 h2
            refine (show xu L1 102 p.toNat (h (z - 1)) 102 ((j - 1) / 2) ≤ xu L1 102 p.toNat (h (z - 1)) 102 j from ?_)
            by_cases q1 : j = p.toNat
            · rw [q1, at_, up _ (by omega)]
              exact o3 (by omega)
            · rw [up j q1]
              by_cases q2 : (j - 1) / 2 = p.toNat
              · rw [q2, at_]
                first
                | (exfalso; omega)
                | (have ec : v82 = L1 102 (2 * p + 1 + 1 : Int).toNat := e82
                   have hmin : ∀ j : Nat, 0 < j → j < z - 1 → (j - 1) / 2 = p.toNat → L1 102 (2 * p + 1 + 1 : Int).toNat ≤ L1 102 j := by
                     intro j h1 h2 h3
                     have z9 : j = 2 * p.toNat + 1 ∨ j = 2 * p.toNat + 2 := by omega
                     have w1 : v61 = L1 102 (2 * p.toNat + 2) := e61.trans (congrArg (L1 102) (by omega))
                     have w2 : v68 = L1 102 (2 * p.toNat + 1) := e68.trans (congrArg (L1 102) (by omega))
                     rw [show (2 * p + 1 + 1 : Int).toNat = 2 * p.toNat + 2 by omega]
                     rcases z9 with rfl | rfl
                     · omega
                     · exact Int.le_refl _
                   have w := hmin j h1 h2 q2
                   omega)
                | (have ec : v82 = L1 102 (2 * p + 1 : Int).toNat := e82
                   have hmin : ∀ j : Nat, 0 < j → j < z - 1 → (j - 1) / 2 = p.toNat → L1 102 (2 * p + 1 : Int).toNat ≤ L1 102 j := by
                     intro j h1 h2 h3
                     have z9 : j = 2 * p.toNat + 1 ∨ j = 2 * p.toNat + 2 := by omega
                     rw [show (2 * p + 1 : Int).toNat = 2 * p.toNat + 1 by omega]
                     rcases z9 with rfl | rfl
                     · exact Int.le_refl _
                     · first
                       | (exfalso; omega)
                       | (have w1 : v61 = L1 102 (2 * p.toNat + 2) := e61.trans (congrArg (L1 102) (by omega))
                          have w2 : v68 = L1 102 (2 * p.toNat + 1) := e68.trans (congrArg (L1 102) (by omega))
                          omega)
                   have w := hmin j h1 h2 q2
                   omega)
              · rw [up _ q2]
                exact o1 j h1 h2 q1 q2
          · have up : ∀ q : Nat, q ≠ p.toNat → xu L1 102 p.toNat (h (z - 1)) 102 q = L1 102 q := fun q hq => zxs hq rfl
            have at_ : xu L1 102 p.toNat (h (z - 1)) 102 p.toNat = (h (z - 1)) := zxe
            refine ⟨fun j h1 => ?_, fun i hi hne => ?_⟩
            · refine (show zex (fun i => i < z ∧ h i = xu L1 102 p.toNat (h (z - 1)) 102 j) from ?_)
              by_cases q1 : j = p.toNat
              · rw [q1, at_]
                exact Exists.intro (z - 1) ⟨by omega, rfl⟩
              · rw [up j q1]
                exact m1 j h1 q1
            · rcases m2 i hi hne with w | w
              · by_cases q0 : z - 1 = 0
                · exfalso
                  have e0 : i = 0 := by omega
                  exact hne (by rw [e0])
                · exact Exists.intro p.toNat ⟨by omega, at_.trans w.symm⟩
              · obtain ⟨j, a1, a2, a3⟩ := w
                exact Exists.intro j ⟨a1, (up j a2).trans a3⟩
          · intro hi
            have up : ∀ q : Nat, q ≠ p.toNat → xu L1 102 p.toNat (h (z - 1)) 102 q = L1 102 q := fun q hq => zxs hq rfl
            have at_ : xu L1 102 p.toNat (h (z - 1)) 102 p.toNat = (h (z - 1)) := zxe
            intro i j h1 h2 h5
            refine (show xu L1 102 p.toNat (h (z - 1)) 102 i ≠ xu L1 102 p.toNat (h (z - 1)) 102 j from ?_)
            by_cases q1 : i = p.toNat
            · rw [q1, at_, up j (by omega)]
              exact fun e => mv hi j h2 (by omega) e.symm
            · rw [up i q1]
              by_cases q2 : j = p.toNat
              · rw [q2, at_]
                exact mv hi i h1 q1
              · rw [up j q2]
                exact mi hi i j h1 h2 q1 q2 h5
          · intro hi
            have up : ∀ q : Nat, q ≠ p.toNat → xu L1 102 p.toNat (h (z - 1)) 102 q = L1 102 q := fun q hq => zxs hq rfl
            have at_ : xu L1 102 p.toNat (h (z - 1)) 102 p.toNat = (h (z - 1)) := zxe
            intro j h1
            refine (show xu L1 102 p.toNat (h (z - 1)) 102 j ≠ h 0 from ?_)
            by_cases q1 : j = p.toNat
            · rw [q1, at_]
              exact hi (z - 1) 0 (by omega) (by omega) (by omega)
            · rw [up j q1]
              exact mz hi j h1 q1
      · refine And.intro (zA_98 hS) (zrdR (v := some 102) (zR_98_4 hR) ?_)
        refine And.intro (zP_102 hS (by omega) (by omega)) (fun v61 e61 r61 => ?_)
        refine And.intro (zA_98 hS) (zrdR (v := some 102) (zR_98_4 hR) ?_)
        refine And.intro (zP_102 hS (by omega) (by omega)) (fun v68 e68 r68 => ?_)
        refine ⟨_, _, ⟨zW6i r61, zW6i r68⟩, fun z69 c69 => ?_⟩
        refine And.intro c69.2.2 ⟨fun h70 => ?_, fun h70 => ?_⟩
        · refine And.intro (zA_98 hS) (zrdR (v := some 102) (zR_98_4 hR) ?_)
          refine And.intro (zP_102 hS (by omega) (by omega)) (fun v82 e82 r82 => ?_)
          refine ⟨_, _, ⟨zW6i r82, zW6i (by omega)⟩, fun z84 c84 => ?_⟩
          refine And.intro c84.2.2 ⟨fun h85 => ?_, fun h85 => ?_⟩
          · refine And.intro (zA_98 hS) (zrdR (v := some 102) (zR_98_4 hR) ?_)
            refine And.intro (zA_98 hS) (zrdR (v := some 102) (zR_98_4 hR) ?_)
            refine And.intro (zP_102 hS (by omega) (by omega)) (fun v103 e103 r103 => ?_)
            refine And.intro ⟨(zx0 rfl), (zP_102 hS (by omega) (by omega))⟩ ⟨_, zW6i r103, ?_⟩
            refine ⟨((8000 - (2 * p + 1).toNat), 0, 0), zlt6 (by omega), [some (zvr (98)), some (zvl (h 0)), none, some (zvl (h (z - 1))), none, some (zvi ((2 * p + 1))), some (zvi (2 * (2 * p + 1) + 1))], ⟨rfl, rfl, rfl, rfl, (congrArg (fun z => some (zvi z)) (by omega)), rfl⟩, (2 * p + 1), rfl, rfl, rfl, rfl, rfl, hr0, (by omega), (Eq.trans (b := ((z - 1) : Int)) hz5 (by omega)), ?_, ?_, ?_, ?_, ?_, ?_, ?_, ?_, (fun c j h0 => ((fr c j (by omega)).trans rfl)), (fun c j h0 => (zxu h0 ((frL c j (by omega)).trans rfl)))⟩
            · first
              | (have ec : v82 = L1 102 (2 * p + 1 + 1 : Int).toNat := e82
                 have hmin : ∀ j : Nat, 0 < j → j < z - 1 → (j - 1) / 2 = p.toNat → L1 102 (2 * p + 1 + 1 : Int).toNat ≤ L1 102 j := by
                   intro j h1 h2 h3
                   have z9 : j = 2 * p.toNat + 1 ∨ j = 2 * p.toNat + 2 := by omega
                   have w1 : v61 = L1 102 (2 * p.toNat + 2) := e61.trans (congrArg (L1 102) (by omega))
                   have w2 : v68 = L1 102 (2 * p.toNat + 1) := e68.trans (congrArg (L1 102) (by omega))
                   rw [show (2 * p + 1 + 1 : Int).toNat = 2 * p.toNat + 2 by omega]
                   rcases z9 with rfl | rfl
                   · omega
                   · exact Int.le_refl _
                 have e1 : v103 = v82 := e103.trans e82.symm
                 have up : ∀ q : Nat, q ≠ p.toNat → xu L1 102 p.toNat v103 102 q = L1 102 q := fun q hq => zxs hq rfl
                 have at_ : xu L1 102 p.toNat v103 102 p.toNat = v103 := zxe
                 intro j h1 h2 h3 h4
                 refine (show xu L1 102 p.toNat v103 102 ((j - 1) / 2) ≤ xu L1 102 p.toNat v103 102 j from ?_)
                 by_cases q1 : j = p.toNat
                 · rw [q1, at_, up _ (by omega), e1, ec]
                   exact o2 (2 * p + 1 + 1 : Int).toNat (by omega) (by omega) (by omega) (by omega)
                 · rw [up j q1]
                   by_cases q2 : (j - 1) / 2 = p.toNat
                   · rw [q2, at_, e1, ec]
                     exact hmin j h1 h2 q2
                   · rw [up _ q2]
                     exact o1 j h1 h2 q1 q2)
              | (have ec : v82 = L1 102 (2 * p + 1 : Int).toNat := e82
                 have hmin : ∀ j : Nat, 0 < j → j < z - 1 → (j - 1) / 2 = p.toNat → L1 102 (2 * p + 1 : Int).toNat ≤ L1 102 j := by
                   intro j h1 h2 h3
                   have z9 : j = 2 * p.toNat + 1 ∨ j = 2 * p.toNat + 2 := by omega
                   rw [show (2 * p + 1 : Int).toNat = 2 * p.toNat + 1 by omega]
                   rcases z9 with rfl | rfl
                   · exact Int.le_refl _
                   · first
                     | (exfalso; omega)
                     | (have w1 : v61 = L1 102 (2 * p.toNat + 2) := e61.trans (congrArg (L1 102) (by omega))
                        have w2 : v68 = L1 102 (2 * p.toNat + 1) := e68.trans (congrArg (L1 102) (by omega))
                        omega)
                 have e1 : v103 = v82 := e103.trans e82.symm
                 have up : ∀ q : Nat, q ≠ p.toNat → xu L1 102 p.toNat v103 102 q = L1 102 q := fun q hq => zxs hq rfl
                 have at_ : xu L1 102 p.toNat v103 102 p.toNat = v103 := zxe
                 intro j h1 h2 h3 h4
                 refine (show xu L1 102 p.toNat v103 102 ((j - 1) / 2) ≤ xu L1 102 p.toNat v103 102 j from ?_)
                 by_cases q1 : j = p.toNat
                 · rw [q1, at_, up _ (by omega), e1, ec]
                   exact o2 (2 * p + 1 : Int).toNat (by omega) (by omega) (by omega) (by omega)
                 · rw [up j q1]
                   by_cases q2 : (j - 1) / 2 = p.toNat
                   · rw [q2, at_, e1, ec]
                     exact hmin j h1 h2 q2
                   · rw [up _ q2]
                     exact o1 j h1 h2 q1 q2)
            · first
              | (have ec : v82 = L1 102 (2 * p + 1 + 1 : Int).toNat := e82
                 have hmin : ∀ j : Nat, 0 < j → j < z - 1 → (j - 1) / 2 = p.toNat → L1 102 (2 * p + 1 + 1 : Int).toNat ≤ L1 102 j := by
                   intro j h1 h2 h3
                   have z9 : j = 2 * p.toNat + 1 ∨ j = 2 * p.toNat + 2 := by omega
                   have w1 : v61 = L1 102 (2 * p.toNat + 2) := e61.trans (congrArg (L1 102) (by omega))
                   have w2 : v68 = L1 102 (2 * p.toNat + 1) := e68.trans (congrArg (L1 102) (by omega))
                   rw [show (2 * p + 1 + 1 : Int).toNat = 2 * p.toNat + 2 by omega]
                   rcases z9 with rfl | rfl
                   · omega
                   · exact Int.le_refl _
                 have e1 : v103 = v82 := e103.trans e82.symm
                 have up : ∀ q : Nat, q ≠ p.toNat → xu L1 102 p.toNat v103 102 q = L1 102 q := fun q hq => zxs hq rfl
                 have at_ : xu L1 102 p.toNat v103 102 p.toNat = v103 := zxe
                 intro j h1 h2 h3 h4
                 refine (show xu L1 102 p.toNat v103 102 (((2 * p + 1 + 1 : Int).toNat - 1) / 2) ≤ xu L1 102 p.toNat v103 102 j from ?_)
                 rw [show ((2 * p + 1 + 1 : Int).toNat - 1) / 2 = p.toNat by omega, at_, up j (by omega), e1, ec]
                 have w := o1 j h1 h2 (by omega) (by omega)
                 rw [h3] at w
                 exact w)
              | (have ec : v82 = L1 102 (2 * p + 1 : Int).toNat := e82
                 have hmin : ∀ j : Nat, 0 < j → j < z - 1 → (j - 1) / 2 = p.toNat → L1 102 (2 * p + 1 : Int).toNat ≤ L1 102 j := by
                   intro j h1 h2 h3
                   have z9 : j = 2 * p.toNat + 1 ∨ j = 2 * p.toNat + 2 := by omega
                   rw [show (2 * p + 1 : Int).toNat = 2 * p.toNat + 1 by omega]
                   rcases z9 with rfl | rfl
                   · exact Int.le_refl _
                   · first
                     | (exfalso; omega)
                     | (have w1 : v61 = L1 102 (2 * p.toNat + 2) := e61.trans (congrArg (L1 102) (by omega))
                        have w2 : v68 = L1 102 (2 * p.toNat + 1) := e68.trans (congrArg (L1 102) (by omega))
                        omega)
                 have e1 : v103 = v82 := e103.trans e82.symm
                 have up : ∀ q : Nat, q ≠ p.toNat → xu L1 102 p.toNat v103 102 q = L1 102 q := fun q hq => zxs hq rfl
                 have at_ : xu L1 102 p.toNat v103 102 p.toNat = v103 := zxe
                 intro j h1 h2 h3 h4
                 refine (show xu L1 102 p.toNat v103 102 (((2 * p + 1 : Int).toNat - 1) / 2) ≤ xu L1 102 p.toNat v103 102 j from ?_)
                 rw [show ((2 * p + 1 : Int).toNat - 1) / 2 = p.toNat by omega, at_, up j (by omega), e1, ec]
                 have w := o1 j h1 h2 (by omega) (by omega)
                 rw [h3] at w
                 exact w)
            · first
              | (have ec : v82 = L1 102 (2 * p + 1 + 1 : Int).toNat := e82
                 have hmin : ∀ j : Nat, 0 < j → j < z - 1 → (j - 1) / 2 = p.toNat → L1 102 (2 * p + 1 + 1 : Int).toNat ≤ L1 102 j := by
                   intro j h1 h2 h3
                   have z9 : j = 2 * p.toNat + 1 ∨ j = 2 * p.toNat + 2 := by omega
                   have w1 : v61 = L1 102 (2 * p.toNat + 2) := e61.trans (congrArg (L1 102) (by omega))
                   have w2 : v68 = L1 102 (2 * p.toNat + 1) := e68.trans (congrArg (L1 102) (by omega))
                   rw [show (2 * p + 1 + 1 : Int).toNat = 2 * p.toNat + 2 by omega]
                   rcases z9 with rfl | rfl
                   · omega
                   · exact Int.le_refl _
                 have e1 : v103 = v82 := e103.trans e82.symm
                 have up : ∀ q : Nat, q ≠ p.toNat → xu L1 102 p.toNat v103 102 q = L1 102 q := fun q hq => zxs hq rfl
                 have at_ : xu L1 102 p.toNat v103 102 p.toNat = v103 := zxe
                 intro h4
                 refine (show xu L1 102 p.toNat v103 102 (((2 * p + 1 + 1 : Int).toNat - 1) / 2) ≤ h (z - 1) from ?_)
                 rw [show ((2 * p + 1 + 1 : Int).toNat - 1) / 2 = p.toNat by omega, at_, e1]
                 omega)
              | (have ec : v82 = L1 102 (2 * p + 1 : Int).toNat := e82
                 have hmin : ∀ j : Nat, 0 < j → j < z - 1 → (j - 1) / 2 = p.toNat → L1 102 (2 * p + 1 : Int).toNat ≤ L1 102 j := by
                   intro j h1 h2 h3
                   have z9 : j = 2 * p.toNat + 1 ∨ j = 2 * p.toNat + 2 := by omega
                   rw [show (2 * p + 1 : Int).toNat = 2 * p.toNat + 1 by omega]
                   rcases z9 with rfl | rfl
                   · exact Int.le_refl _
                   · first
                     | (exfalso; omega)
                     | (have w1 : v61 = L1 102 (2 * p.toNat + 2) := e61.trans (congrArg (L1 102) (by omega))
                        have w2 : v68 = L1 102 (2 * p.toNat + 1) := e68.trans (congrArg (L1 102) (by omega))
                        omega)
                 have e1 : v103 = v82 := e103.trans e82.symm
                 have up : ∀ q : Nat, q ≠ p.toNat → xu L1 102 p.toNat v103 102 q = L1 102 q := fun q hq => zxs hq rfl
                 have at_ : xu L1 102 p.toNat v103 102 p.toNat = v103 := zxe
                 intro h4
                 refine (show xu L1 102 p.toNat v103 102 (((2 * p + 1 : Int).toNat - 1) / 2) ≤ h (z - 1) from ?_)
                 rw [show ((2 * p + 1 : Int).toNat - 1) / 2 = p.toNat by omega, at_, e1]
                 omega)
            · first
              | (have ec : v82 = L1 102 (2 * p + 1 + 1 : Int).toNat := e82
                 have hmin : ∀ j : Nat, 0 < j → j < z - 1 → (j - 1) / 2 = p.toNat → L1 102 (2 * p + 1 + 1 : Int).toNat ≤ L1 102 j := by
                   intro j h1 h2 h3
                   have z9 : j = 2 * p.toNat + 1 ∨ j = 2 * p.toNat + 2 := by omega
                   have w1 : v61 = L1 102 (2 * p.toNat + 2) := e61.trans (congrArg (L1 102) (by omega))
                   have w2 : v68 = L1 102 (2 * p.toNat + 1) := e68.trans (congrArg (L1 102) (by omega))
                   rw [show (2 * p + 1 + 1 : Int).toNat = 2 * p.toNat + 2 by omega]
                   rcases z9 with rfl | rfl
                   · omega
                   · exact Int.le_refl _
                 have e1 : v103 = v82 := e103.trans e82.symm
                 have up : ∀ q : Nat, q ≠ p.toNat → xu L1 102 p.toNat v103 102 q = L1 102 q := fun q hq => zxs hq rfl
                 have at_ : xu L1 102 p.toNat v103 102 p.toNat = v103 := zxe
                 intro j h1 h2
                 refine (show zex (fun i => i < z ∧ h i = xu L1 102 p.toNat v103 102 j) from ?_)
                 by_cases q1 : j = p.toNat
                 · rw [q1, at_, e1, ec]
                   exact m1 (2 * p + 1 + 1 : Int).toNat (by omega) (by omega)
                 · rw [up j q1]
                   exact m1 j h1 q1)
              | (have ec : v82 = L1 102 (2 * p + 1 : Int).toNat := e82
                 have hmin : ∀ j : Nat, 0 < j → j < z - 1 → (j - 1) / 2 = p.toNat → L1 102 (2 * p + 1 : Int).toNat ≤ L1 102 j := by
                   intro j h1 h2 h3
                   have z9 : j = 2 * p.toNat + 1 ∨ j = 2 * p.toNat + 2 := by omega
                   rw [show (2 * p + 1 : Int).toNat = 2 * p.toNat + 1 by omega]
                   rcases z9 with rfl | rfl
                   · exact Int.le_refl _
                   · first
                     | (exfalso; omega)
                     | (have w1 : v61 = L1 102 (2 * p.toNat + 2) := e61.trans (congrArg (L1 102) (by omega))
                        have w2 : v68 = L1 102 (2 * p.toNat + 1) := e68.trans (congrArg (L1 102) (by omega))
                        omega)
                 have e1 : v103 = v82 := e103.trans e82.symm
                 have up : ∀ q : Nat, q ≠ p.toNat → xu L1 102 p.toNat v103 102 q = L1 102 q := fun q hq => zxs hq rfl
                 have at_ : xu L1 102 p.toNat v103 102 p.toNat = v103 := zxe
                 intro j h1 h2
                 refine (show zex (fun i => i < z ∧ h i = xu L1 102 p.toNat v103 102 j) from ?_)
                 by_cases q1 : j = p.toNat
                 · rw [q1, at_, e1, ec]
                   exact m1 (2 * p + 1 : Int).toNat (by omega) (by omega)
                 · rw [up j q1]
                   exact m1 j h1 q1)
            · first
              | (have ec : v82 = L1 102 (2 * p + 1 + 1 : Int).toNat := e82
                 have hmin : ∀ j : Nat, 0 < j → j < z - 1 → (j - 1) / 2 = p.toNat → L1 102 (2 * p + 1 + 1 : Int).toNat ≤ L1 102 j := by
                   intro j h1 h2 h3
                   have z9 : j = 2 * p.toNat + 1 ∨ j = 2 * p.toNat + 2 := by omega
                   have w1 : v61 = L1 102 (2 * p.toNat + 2) := e61.trans (congrArg (L1 102) (by omega))
                   have w2 : v68 = L1 102 (2 * p.toNat + 1) := e68.trans (congrArg (L1 102) (by omega))
                   rw [show (2 * p + 1 + 1 : Int).toNat = 2 * p.toNat + 2 by omega]
                   rcases z9 with rfl | rfl
                   · omega
                   · exact Int.le_refl _
                 have e1 : v103 = v82 := e103.trans e82.symm
                 have up : ∀ q : Nat, q ≠ p.toNat → xu L1 102 p.toNat v103 102 q = L1 102 q := fun q hq => zxs hq rfl
                 have at_ : xu L1 102 p.toNat v103 102 p.toNat = v103 := zxe
                 intro i hi hne
                 rcases m2 i hi hne with w | w
                 · exact Or.inl w
                 · right
                   obtain ⟨j, a1, a2, a3⟩ := w
                   by_cases q1 : j = (2 * p + 1 + 1 : Int).toNat
                   · refine Exists.intro p.toNat ⟨by omega, by omega, (show xu L1 102 p.toNat v103 102 p.toNat = h i from ?_)⟩
                     rw [at_, e1, ec, ← q1]
                     exact a3
                   · exact Exists.intro j ⟨a1, q1, (up j a2).trans a3⟩)
              | (have ec : v82 = L1 102 (2 * p + 1 : Int).toNat := e82
                 have hmin : ∀ j : Nat, 0 < j → j < z - 1 → (j - 1) / 2 = p.toNat → L1 102 (2 * p + 1 : Int).toNat ≤ L1 102 j := by
                   intro j h1 h2 h3
                   have z9 : j = 2 * p.toNat + 1 ∨ j = 2 * p.toNat + 2 := by omega
                   rw [show (2 * p + 1 : Int).toNat = 2 * p.toNat + 1 by omega]
                   rcases z9 with rfl | rfl
                   · exact Int.le_refl _
                   · first
                     | (exfalso; omega)
                     | (have w1 : v61 = L1 102 (2 * p.toNat + 2) := e61.trans (congrArg (L1 102) (by omega))
                        have w2 : v68 = L1 102 (2 * p.toNat + 1) := e68.trans (congrArg (L1 102) (by omega))
                        omega)
                 have e1 : v103 = v82 := e103.trans e82.symm
                 have up : ∀ q : Nat, q ≠ p.toNat → xu L1 102 p.toNat v103 102 q = L1 102 q := fun q hq => zxs hq rfl
                 have at_ : xu L1 102 p.toNat v103 102 p.toNat = v103 := zxe
                 intro i hi hne
                 rcases m2 i hi hne with w | w
                 · exact Or.inl w
                 · right
                   obtain ⟨j, a1, a2, a3⟩ := w
                   by_cases q1 : j = (2 * p + 1 : Int).toNat
                   · refine Exists.intro p.toNat ⟨by omega, by omega, (show xu L1 102 p.toNat v103 102 p.toNat = h i from ?_)⟩
                     rw [at_, e1, ec, ← q1]
                     exact a3
                   · exact Exists.intro j ⟨a1, q1, (up j a2).trans a3⟩)
            · first
              | (have ec : v82 = L1 102 (2 * p + 1 + 1 : Int).toNat := e82
                 have hmin : ∀ j : Nat, 0 < j → j < z - 1 → (j - 1) / 2 = p.toNat → L1 102 (2 * p + 1 + 1 : Int).toNat ≤ L1 102 j := by
                   intro j h1 h2 h3
                   have z9 : j = 2 * p.toNat + 1 ∨ j = 2 * p.toNat + 2 := by omega
                   have w1 : v61 = L1 102 (2 * p.toNat + 2) := e61.trans (congrArg (L1 102) (by omega))
                   have w2 : v68 = L1 102 (2 * p.toNat + 1) := e68.trans (congrArg (L1 102) (by omega))
                   rw [show (2 * p + 1 + 1 : Int).toNat = 2 * p.toNat + 2 by omega]
                   rcases z9 with rfl | rfl
                   · omega
                   · exact Int.le_refl _
                 have e1 : v103 = v82 := e103.trans e82.symm
                 have up : ∀ q : Nat, q ≠ p.toNat → xu L1 102 p.toNat v103 102 q = L1 102 q := fun q hq => zxs hq rfl
                 have at_ : xu L1 102 p.toNat v103 102 p.toNat = v103 := zxe
                 intro hi i j h1 h2 h3 h4 h5
                 refine (show xu L1 102 p.toNat v103 102 i ≠ xu L1 102 p.toNat v103 102 j from ?_)
                 by_cases q1 : i = p.toNat
                 · rw [q1, at_, up j (by omega), e1, ec]
                   exact mi hi _ j (by omega) h2 (by omega) (by omega) (by omega)
                 · rw [up i q1]
                   by_cases q2 : j = p.toNat
                   · rw [q2, at_, e1, ec]
                     exact mi hi i _ h1 (by omega) q1 (by omega) (by omega)
                   · rw [up j q2]
                     exact mi hi i j h1 h2 q1 q2 h5)
              | (have ec : v82 = L1 102 (2 * p + 1 : Int).toNat := e82
                 have hmin : ∀ j : Nat, 0 < j → j < z - 1 → (j - 1) / 2 = p.toNat → L1 102 (2 * p + 1 : Int).toNat ≤ L1 102 j := by
                   intro j h1 h2 h3
                   have z9 : j = 2 * p.toNat + 1 ∨ j = 2 * p.toNat + 2 := by omega
                   rw [show (2 * p + 1 : Int).toNat = 2 * p.toNat + 1 by omega]
                   rcases z9 with rfl | rfl
                   · exact Int.le_refl _
                   · first
                     | (exfalso; omega)
                     | (have w1 : v61 = L1 102 (2 * p.toNat + 2) := e61.trans (congrArg (L1 102) (by omega))
                        have w2 : v68 = L1 102 (2 * p.toNat + 1) := e68.trans (congrArg (L1 102) (by omega))
                        omega)
                 have e1 : v103 = v82 := e103.trans e82.symm
                 have up : ∀ q : Nat, q ≠ p.toNat → xu L1 102 p.toNat v103 102 q = L1 102 q := fun q hq => zxs hq rfl
                 have at_ : xu L1 102 p.toNat v103 102 p.toNat = v103 := zxe
                 intro hi i j h1 h2 h3 h4 h5
                 refine (show xu L1 102 p.toNat v103 102 i ≠ xu L1 102 p.toNat v103 102 j from ?_)
                 by_cases q1 : i = p.toNat
                 · rw [q1, at_, up j (by omega), e1, ec]
                   exact mi hi _ j (by omega) h2 (by omega) (by omega) (by omega)
                 · rw [up i q1]
                   by_cases q2 : j = p.toNat
                   · rw [q2, at_, e1, ec]
                     exact mi hi i _ h1 (by omega) q1 (by omega) (by omega)
                   · rw [up j q2]
                     exact mi hi i j h1 h2 q1 q2 h5)
            · first
              | (have ec : v82 = L1 102 (2 * p + 1 + 1 : Int).toNat := e82
                 have hmin : ∀ j : Nat, 0 < j → j < z - 1 → (j - 1) / 2 = p.toNat → L1 102 (2 * p + 1 + 1 : Int).toNat ≤ L1 102 j := by
                   intro j h1 h2 h3
                   have z9 : j = 2 * p.toNat + 1 ∨ j = 2 * p.toNat + 2 := by omega
                   have w1 : v61 = L1 102 (2 * p.toNat + 2) := e61.trans (congrArg (L1 102) (by omega))
                   have w2 : v68 = L1 102 (2 * p.toNat + 1) := e68.trans (congrArg (L1 102) (by omega))
                   rw [show (2 * p + 1 + 1 : Int).toNat = 2 * p.toNat + 2 by omega]
                   rcases z9 with rfl | rfl
                   · omega
                   · exact Int.le_refl _
                 have e1 : v103 = v82 := e103.trans e82.symm
                 have up : ∀ q : Nat, q ≠ p.toNat → xu L1 102 p.toNat v103 102 q = L1 102 q := fun q hq => zxs hq rfl
                 have at_ : xu L1 102 p.toNat v103 102 p.toNat = v103 := zxe
                 intro hi j h1 h2
                 refine (show xu L1 102 p.toNat v103 102 j ≠ h (z - 1) from ?_)
                 by_cases q1 : j = p.toNat
                 · rw [q1, at_, e1, ec]
                   exact mv hi _ (by omega) (by omega)
                 · rw [up j q1]
                   exact mv hi j h1 q1)
              | (have ec : v82 = L1 102 (2 * p + 1 : Int).toNat := e82
                 have hmin : ∀ j : Nat, 0 < j → j < z - 1 → (j - 1) / 2 = p.toNat → L1 102 (2 * p + 1 : Int).toNat ≤ L1 102 j := by
                   intro j h1 h2 h3
                   have z9 : j = 2 * p.toNat + 1 ∨ j = 2 * p.toNat + 2 := by omega
                   rw [show (2 * p + 1 : Int).toNat = 2 * p.toNat + 1 by omega]
                   rcases z9 with rfl | rfl
                   · exact Int.le_refl _
                   · first
                     | (exfalso; omega)
                     | (have w1 : v61 = L1 102 (2 * p.toNat + 2) := e61.trans (congrArg (L1 102) (by omega))
                        have w2 : v68 = L1 102 (2 * p.toNat + 1) := e68.trans (congrArg (L1 102) (by omega))
                        omega)
                 have e1 : v103 = v82 := e103.trans e82.symm
                 have up : ∀ q : Nat, q ≠ p.toNat → xu L1 102 p.toNat v103 102 q = L1 102 q := fun q hq => zxs hq rfl
                 have at_ : xu L1 102 p.toNat v103 102 p.toNat = v103 := zxe
                 intro hi j h1 h2
                 refine (show xu L1 102 p.toNat v103 102 j ≠ h (z - 1) from ?_)
                 by_cases q1 : j = p.toNat
                 · rw [q1, at_, e1, ec]
                   exact mv hi _ (by omega) (by omega)
                 · rw [up j q1]
                   exact mv hi j h1 q1)
            · first
              | (have ec : v82 = L1 102 (2 * p + 1 + 1 : Int).toNat := e82
                 have hmin : ∀ j : Nat, 0 < j → j < z - 1 → (j - 1) / 2 = p.toNat → L1 102 (2 * p + 1 + 1 : Int).toNat ≤ L1 102 j := by
                   intro j h1 h2 h3
                   have z9 : j = 2 * p.toNat + 1 ∨ j = 2 * p.toNat + 2 := by omega
                   have w1 : v61 = L1 102 (2 * p.toNat + 2) := e61.trans (congrArg (L1 102) (by omega))
                   have w2 : v68 = L1 102 (2 * p.toNat + 1) := e68.trans (congrArg (L1 102) (by omega))
                   rw [show (2 * p + 1 + 1 : Int).toNat = 2 * p.toNat + 2 by omega]
                   rcases z9 with rfl | rfl
                   · omega
                   · exact Int.le_refl _
                 have e1 : v103 = v82 := e103.trans e82.symm
                 have up : ∀ q : Nat, q ≠ p.toNat → xu L1 102 p.toNat v103 102 q = L1 102 q := fun q hq => zxs hq rfl
                 have at_ : xu L1 102 p.toNat v103 102 p.toNat = v103 := zxe
                 intro hi j h1 h2
                 refine (show xu L1 102 p.toNat v103 102 j ≠ h 0 from ?_)
                 by_cases q1 : j = p.toNat
                 · rw [q1, at_, e1, ec]
                   exact mz hi _ (by omega) (by omega)
                 · rw [up j q1]
                   exact mz hi j h1 q1)
              | (have ec : v82 = L1 102 (2 * p + 1 : Int).toNat := e82
                 have hmin : ∀ j : Nat, 0 < j → j < z - 1 → (j - 1) / 2 = p.toNat → L1 102 (2 * p + 1 : Int).toNat ≤ L1 102 j := by
                   intro j h1 h2 h3
                   have z9 : j = 2 * p.toNat + 1 ∨ j = 2 * p.toNat + 2 := by omega
                   rw [show (2 * p + 1 : Int).toNat = 2 * p.toNat + 1 by omega]
                   rcases z9 with rfl | rfl
                   · exact Int.le_refl _
                   · first
                     | (exfalso; omega)
                     | (have w1 : v61 = L1 102 (2 * p.toNat + 2) := e61.trans (congrArg (L1 102) (by omega))
                        have w2 : v68 = L1 102 (2 * p.toNat + 1) := e68.trans (congrArg (L1 102) (by omega))
                        omega)
                 have e1 : v103 = v82 := e103.trans e82.symm
                 have up : ∀ q : Nat, q ≠ p.toNat → xu L1 102 p.toNat v103 102 q = L1 102 q := fun q hq => zxs hq rfl
                 have at_ : xu L1 102 p.toNat v103 102 p.toNat = v103 := zxe
                 intro hi j h1 h2
                 refine (show xu L1 102 p.toNat v103 102 j ≠ h 0 from ?_)
                 by_cases q1 : j = p.toNat
                 · rw [q1, at_, e1, ec]
                   exact mz hi _ (by omega) (by omega)
                 · rw [up j q1]
                   exact mz hi j h1 q1)
          · refine And.intro (zA_98 hS) (zrdR (v := some 102) (zR_98_4 hR) ?_)
            refine And.intro ⟨(zx0 rfl), (zP_102 hS (by omega) (by omega))⟩ ⟨_, zW6i (by omega), ?_⟩
            refine hQ _ _ _ (by omega) hr0.1 (Eq.trans (b := ((z - 1) : Int)) hz5 (by omega)) ?_ ?_ ?_ ?_ (fun c j h0 => ((fr c j (by omega)).trans rfl)) (fun c j h0 => (zxu h0 ((frL c j (by omega)).trans rfl)))
            · have up : ∀ q : Nat, q ≠ p.toNat → xu L1 102 p.toNat (h (z - 1)) 102 q = L1 102 q := fun q hq => zxs hq rfl
              have at_ : xu L1 102 p.toNat (h (z - 1)) 102 p.toNat = (h (z - 1)) := zxe
              intro j h1 h2
              refine (show xu L1 102 p.toNat (h (z - 1)) 102 ((j - 1) / 2) ≤ xu L1 102 p.toNat (h (z - 1)) 102 j from ?_)
              by_cases q1 : j = p.toNat
              · rw [q1, at_, up _ (by omega)]
                exact o3 (by omega)
              · rw [up j q1]
                by_cases q2 : (j - 1) / 2 = p.toNat
                · rw [q2, at_]
                  first
                  | (exfalso; omega)
                  | (have ec : v82 = L1 102 (2 * p + 1 + 1 : Int).toNat := e82
                     have hmin : ∀ j : Nat, 0 < j → j < z - 1 → (j - 1) / 2 = p.toNat → L1 102 (2 * p + 1 + 1 : Int).toNat ≤ L1 102 j := by
                       intro j h1 h2 h3
                       have z9 : j = 2 * p.toNat + 1 ∨ j = 2 * p.toNat + 2 := by omega
                       have w1 : v61 = L1 102 (2 * p.toNat + 2) := e61.trans (congrArg (L1 102) (by omega))
                       have w2 : v68 = L1 102 (2 * p.toNat + 1) := e68.trans (congrArg (L1 102) (by omega))
                       rw [show (2 * p + 1 + 1 : Int).toNat = 2 * p.toNat + 2 by omega]
                       rcases z9 with rfl | rfl
                       · omega
                       · exact Int.le_refl _
                     have w := hmin j h1 h2 q2
                     omega)
                  | (have ec : v82 = L1 102 (2 * p + 1 : Int).toNat := e82
                     have hmin : ∀ j : Nat, 0 < j → j < z - 1 → (j - 1) / 2 = p.toNat → L1 102 (2 * p + 1 : Int).toNat ≤ L1 102 j := by
                       intro j h1 h2 h3
                       have z9 : j = 2 * p.toNat + 1 ∨ j = 2 * p.toNat + 2 := by omega
                       rw [show (2 * p + 1 : Int).toNat = 2 * p.toNat + 1 by omega]
                       rcases z9 with rfl | rfl
                       · exact Int.le_refl _
                       · first
                         | (exfalso; omega)
                         | (have w1 : v61 = L1 102 (2 * p.toNat + 2) := e61.trans (congrArg (L1 102) (by omega))
                            have w2 : v68 = L1 102 (2 * p.toNat + 1) := e68.trans (congrArg (L1 102) (by omega))
                            omega)
                     have w := hmin j h1 h2 q2
                     omega)
                · rw [up _ q2]
                  exact o1 j h1 h2 q1 q2
            · have up : ∀ q : Nat, q ≠ p.toNat → xu L1 102 p.toNat (h (z - 1)) 102 q = L1 102 q := fun q hq => zxs hq rfl
              have at_ : xu L1 102 p.toNat (h (z - 1)) 102 p.toNat = (h (z - 1)) := zxe
              refine ⟨fun j h1 => ?_, fun i hi hne => ?_⟩
              · refine (show zex (fun i => i < z ∧ h i = xu L1 102 p.toNat (h (z - 1)) 102 j) from ?_)
                by_cases q1 : j = p.toNat
                · rw [q1, at_]
                  exact Exists.intro (z - 1) ⟨by omega, rfl⟩
                · rw [up j q1]
                  exact m1 j h1 q1
              · rcases m2 i hi hne with w | w
                · by_cases q0 : z - 1 = 0
                  · exfalso
                    have e0 : i = 0 := by omega
                    exact hne (by rw [e0])
                  · exact Exists.intro p.toNat ⟨by omega, at_.trans w.symm⟩
                · obtain ⟨j, a1, a2, a3⟩ := w
                  exact Exists.intro j ⟨a1, (up j a2).trans a3⟩
            · intro hi
              have up : ∀ q : Nat, q ≠ p.toNat → xu L1 102 p.toNat (h (z - 1)) 102 q = L1 102 q := fun q hq => zxs hq rfl
              have at_ : xu L1 102 p.toNat (h (z - 1)) 102 p.toNat = (h (z - 1)) := zxe
              intro i j h1 h2 h5
              refine (show xu L1 102 p.toNat (h (z - 1)) 102 i ≠ xu L1 102 p.toNat (h (z - 1)) 102 j from ?_)
              by_cases q1 : i = p.toNat
              · rw [q1, at_, up j (by omega)]
                exact fun e => mv hi j h2 (by omega) e.symm
              · rw [up i q1]
                by_cases q2 : j = p.toNat
                · rw [q2, at_]
                  exact mv hi i h1 q1
                · rw [up j q2]
                  exact mi hi i j h1 h2 q1 q2 h5
            · intro hi
              have up : ∀ q : Nat, q ≠ p.toNat → xu L1 102 p.toNat (h (z - 1)) 102 q = L1 102 q := fun q hq => zxs hq rfl
              have at_ : xu L1 102 p.toNat (h (z - 1)) 102 p.toNat = (h (z - 1)) := zxe
              intro j h1
              refine (show xu L1 102 p.toNat (h (z - 1)) 102 j ≠ h 0 from ?_)
              by_cases q1 : j = p.toNat
              · rw [q1, at_]
                exact hi (z - 1) 0 (by omega) (by omega) (by omega)
              · rw [up j q1]
                exact mz hi j h1 q1
        · refine And.intro (zA_98 hS) (zrdR (v := some 102) (zR_98_4 hR) ?_)
          refine And.intro (zP_102 hS (by omega) (by omega)) (fun v82 e82 r82 => ?_)
          refine ⟨_, _, ⟨zW6i r82, zW6i (by omega)⟩, fun z84 c84 => ?_⟩
          refine And.intro c84.2.2 ⟨fun h85 => ?_, fun h85 => ?_⟩
          · refine And.intro (zA_98 hS) (zrdR (v := some 102) (zR_98_4 hR) ?_)
            refine And.intro (zA_98 hS) (zrdR (v := some 102) (zR_98_4 hR) ?_)
            refine And.intro (zP_102 hS (by omega) (by omega)) (fun v103 e103 r103 => ?_)
            refine And.intro ⟨(zx0 rfl), (zP_102 hS (by omega) (by omega))⟩ ⟨_, zW6i r103, ?_⟩
            refine ⟨((8000 - ((2 * p + 1) + 1).toNat), 0, 0), zlt6 (by omega), [some (zvr (98)), some (zvl (h 0)), none, some (zvl (h (z - 1))), none, some (zvi (((2 * p + 1) + 1))), some (zvi (2 * ((2 * p + 1) + 1) + 1))], ⟨rfl, rfl, rfl, rfl, (congrArg (fun z => some (zvi z)) (by omega)), rfl⟩, ((2 * p + 1) + 1), rfl, rfl, rfl, rfl, rfl, hr0, (by omega), (Eq.trans (b := ((z - 1) : Int)) hz5 (by omega)), ?_, ?_, ?_, ?_, ?_, ?_, ?_, ?_, (fun c j h0 => ((fr c j (by omega)).trans rfl)), (fun c j h0 => (zxu h0 ((frL c j (by omega)).trans rfl)))⟩
            · first
              | (have ec : v82 = L1 102 (2 * p + 1 + 1 : Int).toNat := e82
                 have hmin : ∀ j : Nat, 0 < j → j < z - 1 → (j - 1) / 2 = p.toNat → L1 102 (2 * p + 1 + 1 : Int).toNat ≤ L1 102 j := by
                   intro j h1 h2 h3
                   have z9 : j = 2 * p.toNat + 1 ∨ j = 2 * p.toNat + 2 := by omega
                   have w1 : v61 = L1 102 (2 * p.toNat + 2) := e61.trans (congrArg (L1 102) (by omega))
                   have w2 : v68 = L1 102 (2 * p.toNat + 1) := e68.trans (congrArg (L1 102) (by omega))
                   rw [show (2 * p + 1 + 1 : Int).toNat = 2 * p.toNat + 2 by omega]
                   rcases z9 with rfl | rfl
                   · omega
                   · exact Int.le_refl _
                 have e1 : v103 = v82 := e103.trans e82.symm
                 have up : ∀ q : Nat, q ≠ p.toNat → xu L1 102 p.toNat v103 102 q = L1 102 q := fun q hq => zxs hq rfl
                 have at_ : xu L1 102 p.toNat v103 102 p.toNat = v103 := zxe
                 intro j h1 h2 h3 h4
                 refine (show xu L1 102 p.toNat v103 102 ((j - 1) / 2) ≤ xu L1 102 p.toNat v103 102 j from ?_)
                 by_cases q1 : j = p.toNat
                 · rw [q1, at_, up _ (by omega), e1, ec]
                   exact o2 (2 * p + 1 + 1 : Int).toNat (by omega) (by omega) (by omega) (by omega)
                 · rw [up j q1]
                   by_cases q2 : (j - 1) / 2 = p.toNat
                   · rw [q2, at_, e1, ec]
                     exact hmin j h1 h2 q2
                   · rw [up _ q2]
                     exact o1 j h1 h2 q1 q2)
              | (have ec : v82 = L1 102 (2 * p + 1 : Int).toNat := e82
                 have hmin : ∀ j : Nat, 0 < j → j < z - 1 → (j - 1) / 2 = p.toNat → L1 102 (2 * p + 1 : Int).toNat ≤ L1 102 j := by
                   intro j h1 h2 h3
                   have z9 : j = 2 * p.toNat + 1 ∨ j = 2 * p.toNat + 2 := by omega
                   rw [show (2 * p + 1 : Int).toNat = 2 * p.toNat + 1 by omega]
                   rcases z9 with rfl | rfl
                   · exact Int.le_refl _
                   · first
                     | (exfalso; omega)
                     | (have w1 : v61 = L1 102 (2 * p.toNat + 2) := e61.trans (congrArg (L1 102) (by omega))
                        have w2 : v68 = L1 102 (2 * p.toNat + 1) := e68.trans (congrArg (L1 102) (by omega))
                        omega)
                 have e1 : v103 = v82 := e103.trans e82.symm
                 have up : ∀ q : Nat, q ≠ p.toNat → xu L1 102 p.toNat v103 102 q = L1 102 q := fun q hq => zxs hq rfl
                 have at_ : xu L1 102 p.toNat v103 102 p.toNat = v103 := zxe
                 intro j h1 h2 h3 h4
                 refine (show xu L1 102 p.toNat v103 102 ((j - 1) / 2) ≤ xu L1 102 p.toNat v103 102 j from ?_)
                 by_cases q1 : j = p.toNat
                 · rw [q1, at_, up _ (by omega), e1, ec]
                   exact o2 (2 * p + 1 : Int).toNat (by omega) (by omega) (by omega) (by omega)
                 · rw [up j q1]
                   by_cases q2 : (j - 1) / 2 = p.toNat
                   · rw [q2, at_, e1, ec]
                     exact hmin j h1 h2 q2
                   · rw [up _ q2]
                     exact o1 j h1 h2 q1 q2)
            · first
              | (have ec : v82 = L1 102 (2 * p + 1 + 1 : Int).toNat := e82
                 have hmin : ∀ j : Nat, 0 < j → j < z - 1 → (j - 1) / 2 = p.toNat → L1 102 (2 * p + 1 + 1 : Int).toNat ≤ L1 102 j := by
                   intro j h1 h2 h3
                   have z9 : j = 2 * p.toNat + 1 ∨ j = 2 * p.toNat + 2 := by omega
                   have w1 : v61 = L1 102 (2 * p.toNat + 2) := e61.trans (congrArg (L1 102) (by omega))
                   have w2 : v68 = L1 102 (2 * p.toNat + 1) := e68.trans (congrArg (L1 102) (by omega))
                   rw [show (2 * p + 1 + 1 : Int).toNat = 2 * p.toNat + 2 by omega]
                   rcases z9 with rfl | rfl
                   · omega
                   · exact Int.le_refl _
                 have e1 : v103 = v82 := e103.trans e82.symm
                 have up : ∀ q : Nat, q ≠ p.toNat → xu L1 102 p.toNat v103 102 q = L1 102 q := fun q hq => zxs hq rfl
                 have at_ : xu L1 102 p.toNat v103 102 p.toNat = v103 := zxe
                 intro j h1 h2 h3 h4
                 refine (show xu L1 102 p.toNat v103 102 (((2 * p + 1 + 1 : Int).toNat - 1) / 2) ≤ xu L1 102 p.toNat v103 102 j from ?_)
                 rw [show ((2 * p + 1 + 1 : Int).toNat - 1) / 2 = p.toNat by omega, at_, up j (by omega), e1, ec]
                 have w := o1 j h1 h2 (by omega) (by omega)
                 rw [h3] at w
                 exact w)
              | (have ec : v82 = L1 102 (2 * p + 1 : Int).toNat := e82
                 have hmin : ∀ j : Nat, 0 < j → j < z - 1 → (j - 1) / 2 = p.toNat → L1 102 (2 * p + 1 : Int).toNat ≤ L1 102 j := by
                   intro j h1 h2 h3
                   have z9 : j = 2 * p.toNat + 1 ∨ j = 2 * p.toNat + 2 := by omega
                   rw [show (2 * p + 1 : Int).toNat = 2 * p.toNat + 1 by omega]
                   rcases z9 with rfl | rfl
                   · exact Int.le_refl _
                   · first
                     | (exfalso; omega)
                     | (have w1 : v61 = L1 102 (2 * p.toNat + 2) := e61.trans (congrArg (L1 102) (by omega))
                        have w2 : v68 = L1 102 (2 * p.toNat + 1) := e68.trans (congrArg (L1 102) (by omega))
                        omega)
                 have e1 : v103 = v82 := e103.trans e82.symm
                 have up : ∀ q : Nat, q ≠ p.toNat → xu L1 102 p.toNat v103 102 q = L1 102 q := fun q hq => zxs hq rfl
                 have at_ : xu L1 102 p.toNat v103 102 p.toNat = v103 := zxe
                 intro j h1 h2 h3 h4
                 refine (show xu L1 102 p.toNat v103 102 (((2 * p + 1 : Int).toNat - 1) / 2) ≤ xu L1 102 p.toNat v103 102 j from ?_)
                 rw [show ((2 * p + 1 : Int).toNat - 1) / 2 = p.toNat by omega, at_, up j (by omega), e1, ec]
                 have w := o1 j h1 h2 (by omega) (by omega)
                 rw [h3] at w
                 exact w)
            · first
              | (have ec : v82 = L1 102 (2 * p + 1 + 1 : Int).toNat := e82
                 have hmin : ∀ j : Nat, 0 < j → j < z - 1 → (j - 1) / 2 = p.toNat → L1 102 (2 * p + 1 + 1 : Int).toNat ≤ L1 102 j := by
                   intro j h1 h2 h3
                   have z9 : j = 2 * p.toNat + 1 ∨ j = 2 * p.toNat + 2 := by omega
                   have w1 : v61 = L1 102 (2 * p.toNat + 2) := e61.trans (congrArg (L1 102) (by omega))
                   have w2 : v68 = L1 102 (2 * p.toNat + 1) := e68.trans (congrArg (L1 102) (by omega))
                   rw [show (2 * p + 1 + 1 : Int).toNat = 2 * p.toNat + 2 by omega]
                   rcases z9 with rfl | rfl
                   · omega
                   · exact Int.le_refl _
                 have e1 : v103 = v82 := e103.trans e82.symm
                 have up : ∀ q : Nat, q ≠ p.toNat → xu L1 102 p.toNat v103 102 q = L1 102 q := fun q hq => zxs hq rfl
                 have at_ : xu L1 102 p.toNat v103 102 p.toNat = v103 := zxe
                 intro h4
                 refine (show xu L1 102 p.toNat v103 102 (((2 * p + 1 + 1 : Int).toNat - 1) / 2) ≤ h (z - 1) from ?_)
                 rw [show ((2 * p + 1 + 1 : Int).toNat - 1) / 2 = p.toNat by omega, at_, e1]
                 omega)
              | (have ec : v82 = L1 102 (2 * p + 1 : Int).toNat := e82
                 have hmin : ∀ j : Nat, 0 < j → j < z - 1 → (j - 1) / 2 = p.toNat → L1 102 (2 * p + 1 : Int).toNat ≤ L1 102 j := by
                   intro j h1 h2 h3
                   have z9 : j = 2 * p.toNat + 1 ∨ j = 2 * p.toNat + 2 := by omega
                   rw [show (2 * p + 1 : Int).toNat = 2 * p.toNat + 1 by omega]
                   rcases z9 with rfl | rfl
                   · exact Int.le_refl _
                   · first
                     | (exfalso; omega)
                     | (have w1 : v61 = L1 102 (2 * p.toNat + 2) := e61.trans (congrArg (L1 102) (by omega))
                        have w2 : v68 = L1 102 (2 * p.toNat + 1) := e68.trans (congrArg (L1 102) (by omega))
                        omega)
                 have e1 : v103 = v82 := e103.trans e82.symm
                 have up : ∀ q : Nat, q ≠ p.toNat → xu L1 102 p.toNat v103 102 q = L1 102 q := fun q hq => zxs hq rfl
                 have at_ : xu L1 102 p.toNat v103 102 p.toNat = v103 := zxe
                 intro h4
                 refine (show xu L1 102 p.toNat v103 102 (((2 * p + 1 : Int).toNat - 1) / 2) ≤ h (z - 1) from ?_)
                 rw [show ((2 * p + 1 : Int).toNat - 1) / 2 = p.toNat by omega, at_, e1]
                 omega)
            · first
              | (have ec : v82 = L1 102 (2 * p + 1 + 1 : Int).toNat := e82
                 have hmin : ∀ j : Nat, 0 < j → j < z - 1 → (j - 1) / 2 = p.toNat → L1 102 (2 * p + 1 + 1 : Int).toNat ≤ L1 102 j := by
                   intro j h1 h2 h3
                   have z9 : j = 2 * p.toNat + 1 ∨ j = 2 * p.toNat + 2 := by omega
                   have w1 : v61 = L1 102 (2 * p.toNat + 2) := e61.trans (congrArg (L1 102) (by omega))
                   have w2 : v68 = L1 102 (2 * p.toNat + 1) := e68.trans (congrArg (L1 102) (by omega))
                   rw [show (2 * p + 1 + 1 : Int).toNat = 2 * p.toNat + 2 by omega]
                   rcases z9 with rfl | rfl
                   · omega
                   · exact Int.le_refl _
                 have e1 : v103 = v82 := e103.trans e82.symm
                 have up : ∀ q : Nat, q ≠ p.toNat → xu L1 102 p.toNat v103 102 q = L1 102 q := fun q hq => zxs hq rfl
                 have at_ : xu L1 102 p.toNat v103 102 p.toNat = v103 := zxe
                 intro j h1 h2
                 refine (show zex (fun i => i < z ∧ h i = xu L1 102 p.toNat v103 102 j) from ?_)
                 by_cases q1 : j = p.toNat
                 · rw [q1, at_, e1, ec]
                   exact m1 (2 * p + 1 + 1 : Int).toNat (by omega) (by omega)
                 · rw [up j q1]
                   exact m1 j h1 q1)
              | (have ec : v82 = L1 102 (2 * p + 1 : Int).toNat := e82
                 have hmin : ∀ j : Nat, 0 < j → j < z - 1 → (j - 1) / 2 = p.toNat → L1 102 (2 * p + 1 : Int).toNat ≤ L1 102 j := by
                   intro j h1 h2 h3
                   have z9 : j = 2 * p.toNat + 1 ∨ j = 2 * p.toNat + 2 := by omega
                   rw [show (2 * p + 1 : Int).toNat = 2 * p.toNat + 1 by omega]
                   rcases z9 with rfl | rfl
                   · exact Int.le_refl _
                   · first
                     | (exfalso; omega)
                     | (have w1 : v61 = L1 102 (2 * p.toNat + 2) := e61.trans (congrArg (L1 102) (by omega))
                        have w2 : v68 = L1 102 (2 * p.toNat + 1) := e68.trans (congrArg (L1 102) (by omega))
                        omega)
                 have e1 : v103 = v82 := e103.trans e82.symm
                 have up : ∀ q : Nat, q ≠ p.toNat → xu L1 102 p.toNat v103 102 q = L1 102 q := fun q hq => zxs hq rfl
                 have at_ : xu L1 102 p.toNat v103 102 p.toNat = v103 := zxe
                 intro j h1 h2
                 refine (show zex (fun i => i < z ∧ h i = xu L1 102 p.toNat v103 102 j) from ?_)
                 by_cases q1 : j = p.toNat
                 · rw [q1, at_, e1, ec]
                   exact m1 (2 * p + 1 : Int).toNat (by omega) (by omega)
                 · rw [up j q1]
                   exact m1 j h1 q1)
            · first
              | (have ec : v82 = L1 102 (2 * p + 1 + 1 : Int).toNat := e82
                 have hmin : ∀ j : Nat, 0 < j → j < z - 1 → (j - 1) / 2 = p.toNat → L1 102 (2 * p + 1 + 1 : Int).toNat ≤ L1 102 j := by
                   intro j h1 h2 h3
                   have z9 : j = 2 * p.toNat + 1 ∨ j = 2 * p.toNat + 2 := by omega
                   have w1 : v61 = L1 102 (2 * p.toNat + 2) := e61.trans (congrArg (L1 102) (by omega))
                   have w2 : v68 = L1 102 (2 * p.toNat + 1) := e68.trans (congrArg (L1 102) (by omega))
                   rw [show (2 * p + 1 + 1 : Int).toNat = 2 * p.toNat + 2 by omega]
                   rcases z9 with rfl | rfl
                   · omega
                   · exact Int.le_refl _
                 have e1 : v103 = v82 := e103.trans e82.symm
                 have up : ∀ q : Nat, q ≠ p.toNat → xu L1 102 p.toNat v103 102 q = L1 102 q := fun q hq => zxs hq rfl
                 have at_ : xu L1 102 p.toNat v103 102 p.toNat = v103 := zxe
                 intro i hi hne
                 rcases m2 i hi hne with w | w
                 · exact Or.inl w
                 · right
                   obtain ⟨j, a1, a2, a3⟩ := w
                   by_cases q1 : j = (2 * p + 1 + 1 : Int).toNat
                   · refine Exists.intro p.toNat ⟨by omega, by omega, (show xu L1 102 p.toNat v103 102 p.toNat = h i from ?_)⟩
                     rw [at_, e1, ec, ← q1]
                     exact a3
                   · exact Exists.intro j ⟨a1, q1, (up j a2).trans a3⟩)
              | (have ec : v82 = L1 102 (2 * p + 1 : Int).toNat := e82
                 have hmin : ∀ j : Nat, 0 < j → j < z - 1 → (j - 1) / 2 = p.toNat → L1 102 (2 * p + 1 : Int).toNat ≤ L1 102 j := by
                   intro j h1 h2 h3
                   have z9 : j = 2 * p.toNat + 1 ∨ j = 2 * p.toNat + 2 := by omega
                   rw [show (2 * p + 1 : Int).toNat = 2 * p.toNat + 1 by omega]
                   rcases z9 with rfl | rfl
                   · exact Int.le_refl _
                   · first
                     | (exfalso; omega)
                     | (have w1 : v61 = L1 102 (2 * p.toNat + 2) := e61.trans (congrArg (L1 102) (by omega))
                        have w2 : v68 = L1 102 (2 * p.toNat + 1) := e68.trans (congrArg (L1 102) (by omega))
                        omega)
                 have e1 : v103 = v82 := e103.trans e82.symm
                 have up : ∀ q : Nat, q ≠ p.toNat → xu L1 102 p.toNat v103 102 q = L1 102 q := fun q hq => zxs hq rfl
                 have at_ : xu L1 102 p.toNat v103 102 p.toNat = v103 := zxe
                 intro i hi hne
                 rcases m2 i hi hne with w | w
                 · exact Or.inl w
                 · right
                   obtain ⟨j, a1, a2, a3⟩ := w
                   by_cases q1 : j = (2 * p + 1 : Int).toNat
                   · refine Exists.intro p.toNat ⟨by omega, by omega, (show xu L1 102 p.toNat v103 102 p.toNat = h i from ?_)⟩
                     rw [at_, e1, ec, ← q1]
                     exact a3
                   · exact Exists.intro j ⟨a1, q1, (up j a2).trans a3⟩)
            · first
              | (have ec : v82 = L1 102 (2 * p + 1 + 1 : Int).toNat := e82
                 have hmin : ∀ j : Nat, 0 < j → j < z - 1 → (j - 1) / 2 = p.toNat → L1 102 (2 * p + 1 + 1 : Int).toNat ≤ L1 102 j := by
                   intro j h1 h2 h3
                   have z9 : j = 2 * p.toNat + 1 ∨ j = 2 * p.toNat + 2 := by omega
                   have w1 : v61 = L1 102 (2 * p.toNat + 2) := e61.trans (congrArg (L1 102) (by omega))
                   have w2 : v68 = L1 102 (2 * p.toNat + 1) := e68.trans (congrArg (L1 102) (by omega))
                   rw [show (2 * p + 1 + 1 : Int).toNat = 2 * p.toNat + 2 by omega]
                   rcases z9 with rfl | rfl
                   · omega
                   · exact Int.le_refl _
                 have e1 : v103 = v82 := e103.trans e82.symm
                 have up : ∀ q : Nat, q ≠ p.toNat → xu L1 102 p.toNat v103 102 q = L1 102 q := fun q hq => zxs hq rfl
                 have at_ : xu L1 102 p.toNat v103 102 p.toNat = v103 := zxe
                 intro hi i j h1 h2 h3 h4 h5
                 refine (show xu L1 102 p.toNat v103 102 i ≠ xu L1 102 p.toNat v103 102 j from ?_)
                 by_cases q1 : i = p.toNat
                 · rw [q1, at_, up j (by omega), e1, ec]
                   exact mi hi _ j (by omega) h2 (by omega) (by omega) (by omega)
                 · rw [up i q1]
                   by_cases q2 : j = p.toNat
                   · rw [q2, at_, e1, ec]
                     exact mi hi i _ h1 (by omega) q1 (by omega) (by omega)
                   · rw [up j q2]
                     exact mi hi i j h1 h2 q1 q2 h5)
              | (have ec : v82 = L1 102 (2 * p + 1 : Int).toNat := e82
                 have hmin : ∀ j : Nat, 0 < j → j < z - 1 → (j - 1) / 2 = p.toNat → L1 102 (2 * p + 1 : Int).toNat ≤ L1 102 j := by
                   intro j h1 h2 h3
                   have z9 : j = 2 * p.toNat + 1 ∨ j = 2 * p.toNat + 2 := by omega
                   rw [show (2 * p + 1 : Int).toNat = 2 * p.toNat + 1 by omega]
                   rcases z9 with rfl | rfl
                   · exact Int.le_refl _
                   · first
                     | (exfalso; omega)
                     | (have w1 : v61 = L1 102 (2 * p.toNat + 2) := e61.trans (congrArg (L1 102) (by omega))
                        have w2 : v68 = L1 102 (2 * p.toNat + 1) := e68.trans (congrArg (L1 102) (by omega))
                        omega)
                 have e1 : v103 = v82 := e103.trans e82.symm
                 have up : ∀ q : Nat, q ≠ p.toNat → xu L1 102 p.toNat v103 102 q = L1 102 q := fun q hq => zxs hq rfl
                 have at_ : xu L1 102 p.toNat v103 102 p.toNat = v103 := zxe
                 intro hi i j h1 h2 h3 h4 h5
                 refine (show xu L1 102 p.toNat v103 102 i ≠ xu L1 102 p.toNat v103 102 j from ?_)
                 by_cases q1 : i = p.toNat
                 · rw [q1, at_, up j (by omega), e1, ec]
                   exact mi hi _ j (by omega) h2 (by omega) (by omega) (by omega)
                 · rw [up i q1]
                   by_cases q2 : j = p.toNat
                   · rw [q2, at_, e1, ec]
                     exact mi hi i _ h1 (by omega) q1 (by omega) (by omega)
                   · rw [up j q2]
                     exact mi hi i j h1 h2 q1 q2 h5)
            · first
              | (have ec : v82 = L1 102 (2 * p + 1 + 1 : Int).toNat := e82
                 have hmin : ∀ j : Nat, 0 < j → j < z - 1 → (j - 1) / 2 = p.toNat → L1 102 (2 * p + 1 + 1 : Int).toNat ≤ L1 102 j := by
                   intro j h1 h2 h3
                   have z9 : j = 2 * p.toNat + 1 ∨ j = 2 * p.toNat + 2 := by omega
                   have w1 : v61 = L1 102 (2 * p.toNat + 2) := e61.trans (congrArg (L1 102) (by omega))
                   have w2 : v68 = L1 102 (2 * p.toNat + 1) := e68.trans (congrArg (L1 102) (by omega))
                   rw [show (2 * p + 1 + 1 : Int).toNat = 2 * p.toNat + 2 by omega]
                   rcases z9 with rfl | rfl
                   · omega
                   · exact Int.le_refl _
                 have e1 : v103 = v82 := e103.trans e82.symm
                 have up : ∀ q : Nat, q ≠ p.toNat → xu L1 102 p.toNat v103 102 q = L1 102 q := fun q hq => zxs hq rfl
                 have at_ : xu L1 102 p.toNat v103 102 p.toNat = v103 := zxe
                 intro hi j h1 h2
                 refine (show xu L1 102 p.toNat v103 102 j ≠ h (z - 1) from ?_)
                 by_cases q1 : j = p.toNat
                 · rw [q1, at_, e1, ec]
                   exact mv hi _ (by omega) (by omega)
                 · rw [up j q1]
                   exact mv hi j h1 q1)
              | (have ec : v82 = L1 102 (2 * p + 1 : Int).toNat := e82
                 have hmin : ∀ j : Nat, 0 < j → j < z - 1 → (j - 1) / 2 = p.toNat → L1 102 (2 * p + 1 : Int).toNat ≤ L1 102 j := by
                   intro j h1 h2 h3
                   have z9 : j = 2 * p.toNat + 1 ∨ j = 2 * p.toNat + 2 := by omega
                   rw [show (2 * p + 1 : Int).toNat = 2 * p.toNat + 1 by omega]
                   rcases z9 with rfl | rfl
                   · exact Int.le_refl _
                   · first
                     | (exfalso; omega)
                     | (have w1 : v61 = L1 102 (2 * p.toNat + 2) := e61.trans (congrArg (L1 102) (by omega))
                        have w2 : v68 = L1 102 (2 * p.toNat + 1) := e68.trans (congrArg (L1 102) (by omega))
                        omega)
                 have e1 : v103 = v82 := e103.trans e82.symm
                 have up : ∀ q : Nat, q ≠ p.toNat → xu L1 102 p.toNat v103 102 q = L1 102 q := fun q hq => zxs hq rfl
                 have at_ : xu L1 102 p.toNat v103 102 p.toNat = v103 := zxe
                 intro hi j h1 h2
                 refine (show xu L1 102 p.toNat v103 102 j ≠ h (z - 1) from ?_)
                 by_cases q1 : j = p.toNat
                 · rw [q1, at_, e1, ec]
                   exact mv hi _ (by omega) (by omega)
                 · rw [up j q1]
                   exact mv hi j h1 q1)
            · first
              | (have ec : v82 = L1 102 (2 * p + 1 + 1 : Int).toNat := e82
                 have hmin : ∀ j : Nat, 0 < j → j < z - 1 → (j - 1) / 2 = p.toNat → L1 102 (2 * p + 1 + 1 : Int).toNat ≤ L1 102 j := by
                   intro j h1 h2 h3
                   have z9 : j = 2 * p.toNat + 1 ∨ j = 2 * p.toNat + 2 := by omega
                   have w1 : v61 = L1 102 (2 * p.toNat + 2) := e61.trans (congrArg (L1 102) (by omega))
                   have w2 : v68 = L1 102 (2 * p.toNat + 1) := e68.trans (congrArg (L1 102) (by omega))
                   rw [show (2 * p + 1 + 1 : Int).toNat = 2 * p.toNat + 2 by omega]
                   rcases z9 with rfl | rfl
                   · omega
                   · exact Int.le_refl _
                 have e1 : v103 = v82 := e103.trans e82.symm
                 have up : ∀ q : Nat, q ≠ p.toNat → xu L1 102 p.toNat v103 102 q = L1 102 q := fun q hq => zxs hq rfl
                 have at_ : xu L1 102 p.toNat v103 102 p.toNat = v103 := zxe
                 intro hi j h1 h2
                 refine (show xu L1 102 p.toNat v103 102 j ≠ h 0 from ?_)
                 by_cases q1 : j = p.toNat
                 · rw [q1, at_, e1, ec]
                   exact mz hi _ (by omega) (by omega)
                 · rw [up j q1]
                   exact mz hi j h1 q1)
              | (have ec : v82 = L1 102 (2 * p + 1 : Int).toNat := e82
                 have hmin : ∀ j : Nat, 0 < j → j < z - 1 → (j - 1) / 2 = p.toNat → L1 102 (2 * p + 1 : Int).toNat ≤ L1 102 j := by
                   intro j h1 h2 h3
                   have z9 : j = 2 * p.toNat + 1 ∨ j = 2 * p.toNat + 2 := by omega
                   rw [show (2 * p + 1 : Int).toNat = 2 * p.toNat + 1 by omega]
                   rcases z9 with rfl | rfl
                   · exact Int.le_refl _
                   · first
                     | (exfalso; omega)
                     | (have w1 : v61 = L1 102 (2 * p.toNat + 2) := e61.trans (congrArg (L1 102) (by omega))
                        have w2 : v68 = L1 102 (2 * p.toNat + 1) := e68.trans (congrArg (L1 102) (by omega))
                        omega)
                 have e1 : v103 = v82 := e103.trans e82.symm
                 have up : ∀ q : Nat, q ≠ p.toNat → xu L1 102 p.toNat v103 102 q = L1 102 q := fun q hq => zxs hq rfl
                 have at_ : xu L1 102 p.toNat v103 102 p.toNat = v103 := zxe
                 intro hi j h1 h2
                 refine (show xu L1 102 p.toNat v103 102 j ≠ h 0 from ?_)
                 by_cases q1 : j = p.toNat
                 · rw [q1, at_, e1, ec]
                   exact mz hi _ (by omega) (by omega)
                 · rw [up j q1]
                   exact mz hi j h1 q1)
          · refine And.intro (zA_98 hS) (zrdR (v := some 102) (zR_98_4 hR) ?_)
            refine And.intro ⟨(zx0 rfl), (zP_102 hS (by omega) (by omega))⟩ ⟨_, zW6i (by omega), ?_⟩
            refine hQ _ _ _ (by omega) hr0.1 (Eq.trans (b := ((z - 1) : Int)) hz5 (by omega)) ?_ ?_ ?_ ?_ (fun c j h0 => ((fr c j (by omega)).trans rfl)) (fun c j h0 => (zxu h0 ((frL c j (by omega)).trans rfl)))
            · have up : ∀ q : Nat, q ≠ p.toNat → xu L1 102 p.toNat (h (z - 1)) 102 q = L1 102 q := fun q hq => zxs hq rfl
              have at_ : xu L1 102 p.toNat (h (z - 1)) 102 p.toNat = (h (z - 1)) := zxe
              intro j h1 h2
              refine (show xu L1 102 p.toNat (h (z - 1)) 102 ((j - 1) / 2) ≤ xu L1 102 p.toNat (h (z - 1)) 102 j from ?_)
              by_cases q1 : j = p.toNat
              · rw [q1, at_, up _ (by omega)]
                exact o3 (by omega)
              · rw [up j q1]
                by_cases q2 : (j - 1) / 2 = p.toNat
                · rw [q2, at_]
                  first
                  | (exfalso; omega)
                  | (have ec : v82 = L1 102 (2 * p + 1 + 1 : Int).toNat := e82
                     have hmin : ∀ j : Nat, 0 < j → j < z - 1 → (j - 1) / 2 = p.toNat → L1 102 (2 * p + 1 + 1 : Int).toNat ≤ L1 102 j := by
                       intro j h1 h2 h3
                       have z9 : j = 2 * p.toNat + 1 ∨ j = 2 * p.toNat + 2 := by omega
                       have w1 : v61 = L1 102 (2 * p.toNat + 2) := e61.trans (congrArg (L1 102) (by omega))
                       have w2 : v68 = L1 102 (2 * p.toNat + 1) := e68.trans (congrArg (L1 102) (by omega))
                       rw [show (2 * p + 1 + 1 : Int).toNat = 2 * p.toNat + 2 by omega]
                       rcases z9 with rfl | rfl
                       · omega
                       · exact Int.le_refl _
                     have w := hmin j h1 h2 q2
                     omega)
                  | (have ec : v82 = L1 102 (2 * p + 1 : Int).toNat := e82
                     have hmin : ∀ j : Nat, 0 < j → j < z - 1 → (j - 1) / 2 = p.toNat → L1 102 (2 * p + 1 : Int).toNat ≤ L1 102 j := by
                       intro j h1 h2 h3
                       have z9 : j = 2 * p.toNat + 1 ∨ j = 2 * p.toNat + 2 := by omega
                       rw [show (2 * p + 1 : Int).toNat = 2 * p.toNat + 1 by omega]
                       rcases z9 with rfl | rfl
                       · exact Int.le_refl _
                       · first
                         | (exfalso; omega)
                         | (have w1 : v61 = L1 102 (2 * p.toNat + 2) := e61.trans (congrArg (L1 102) (by omega))
                            have w2 : v68 = L1 102 (2 * p.toNat + 1) := e68.trans (congrArg (L1 102) (by omega))
                            omega)
                     have w := hmin j h1 h2 q2
                     omega)
                · rw [up _ q2]
                  exact o1 j h1 h2 q1 q2
            · have up : ∀ q : Nat, q ≠ p.toNat → xu L1 102 p.toNat (h (z - 1)) 102 q = L1 102 q := fun q hq => zxs hq rfl
              have at_ : xu L1 102 p.toNat (h (z - 1)) 102 p.toNat = (h (z - 1)) := zxe
              refine ⟨fun j h1 => ?_, fun i hi hne => ?_⟩
              · refine (show zex (fun i => i < z ∧ h i = xu L1 102 p.toNat (h (z - 1)) 102 j) from ?_)
                by_cases q1 : j = p.toNat
                · rw [q1, at_]
                  exact Exists.intro (z - 1) ⟨by omega, rfl⟩
                · rw [up j q1]
                  exact m1 j h1 q1
              · rcases m2 i hi hne with w | w
                · by_cases q0 : z - 1 = 0
                  · exfalso
                    have e0 : i = 0 := by omega
                    exact hne (by rw [e0])
                  · exact Exists.intro p.toNat ⟨by omega, at_.trans w.symm⟩
                · obtain ⟨j, a1, a2, a3⟩ := w
                  exact Exists.intro j ⟨a1, (up j a2).trans a3⟩
            · intro hi
              have up : ∀ q : Nat, q ≠ p.toNat → xu L1 102 p.toNat (h (z - 1)) 102 q = L1 102 q := fun q hq => zxs hq rfl
              have at_ : xu L1 102 p.toNat (h (z - 1)) 102 p.toNat = (h (z - 1)) := zxe
              intro i j h1 h2 h5
              refine (show xu L1 102 p.toNat (h (z - 1)) 102 i ≠ xu L1 102 p.toNat (h (z - 1)) 102 j from ?_)
              by_cases q1 : i = p.toNat
              · rw [q1, at_, up j (by omega)]
                exact fun e => mv hi j h2 (by omega) e.symm
              · rw [up i q1]
                by_cases q2 : j = p.toNat
                · rw [q2, at_]
                  exact mv hi i h1 q1
                · rw [up j q2]
                  exact mi hi i j h1 h2 q1 q2 h5
            · intro hi
              have up : ∀ q : Nat, q ≠ p.toNat → xu L1 102 p.toNat (h (z - 1)) 102 q = L1 102 q := fun q hq => zxs hq rfl
              have at_ : xu L1 102 p.toNat (h (z - 1)) 102 p.toNat = (h (z - 1)) := zxe
              intro j h1
              refine (show xu L1 102 p.toNat (h (z - 1)) 102 j ≠ h 0 from ?_)
              by_cases q1 : j = p.toNat
              · rw [q1, at_]
                exact hi (z - 1) 0 (by omega) (by omega) (by omega)
              · rw [up j q1]
                exact mz hi j h1 q1)
