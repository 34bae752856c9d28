/-! hp -/
def T_A_reach : ZT := fun args I L R S Q => ∃ (a : Int) (c : Nat) (d : Int) (z : Nat) (dd : Nat → Int) (h : Nat → Int), args = [zvr 98, zvi a, zvi d] ∧ (zSh S) ∧ (zRs R) ∧ (a = c ∧ c < 1024) ∧ (0 ≤ d ∧ d ≤ 2147483647) ∧ (I 98 5 = z) ∧ (z < 7168) ∧ (∀ j : Nat, j < 1024 → I 99 j = dd j) ∧ (∀ j : Nat, j < z → L 102 j = h j) ∧ (hpO h z) ∧ ∀ (I' : ZI) (L' : ZI), (I' 98 5 = if dd c ≠ -1 ∧ dd c ≤ d then (z : Int) else z + 1) → (∀ j : Nat, j < 1024 → I' 99 j = if dd c ≠ -1 ∧ dd c ≤ d then dd j else upF dd c d j) → (hpO (L' 102) (if dd c ≠ -1 ∧ dd c ≤ d then z else z + 1)) → (if dd c ≠ -1 ∧ dd c ≤ d then (∀ j, L' 102 j = L 102 j) else hpAdd h z (d * 1024 + c) (L' 102)) → (hpI h z → (∀ i : Nat, i < z → h i ≠ (d * 1024 + c)) → ¬ (dd c ≠ -1 ∧ dd c ≤ d) → hpI (L' 102) (z + 1)) → (∀ c j : Nat, ¬ c = 99 → ¬ (c = 98 ∧ j = 5) → I' c j = I c j) → (∀ c j : Nat, ¬ c = 102 → L' c j = L c j) → Q none I' L' R S
theorem sn_A_reach : ZSnd 1 6 12 T_A_reach := ZSnd.loops (zT6_12 0) (by
  rintro args I L R S Q hz ⟨a, c, d, z, dd, h, rfl, hS, hR, ha, hd0, hz, hz7, hdd, hh, hO, hQ⟩
  refine ⟨[69], fun nM tM lsM stM I1 L1 R1 S1 => match tM with
      | 69 => ∃ (p : Nat), nM = (p, 0, 0) ∧ lsM = [some (zvr (98)), some (zvi (a)), some (zvi (d)), some (zvl (d * 1024 + c)), none, some (zvi (p))] ∧ stM = [] ∧ R1 = R ∧ S1 = S ∧ (¬ (dd c ≠ -1 ∧ dd c ≤ d)) ∧ (p ≤ z) ∧ (I1 98 5 = z + 1) ∧ (∀ j : Nat, j < 1024 → I1 99 j = upF dd c d j) ∧ (∀ j : Nat, 0 < j → j < z + 1 → j ≠ p → (j - 1) / 2 ≠ p → L1 102 ((j - 1) / 2) ≤ L1 102 j) ∧ (∀ j : Nat, 0 < j → j < z + 1 → (j - 1) / 2 = p → d * 1024 + c ≤ L1 102 j ∧ (0 < p → L1 102 ((p - 1) / 2) ≤ L1 102 j)) ∧ (∀ j : Nat, j < z + 1 → j ≠ p → zex (fun i => i < z ∧ h i = L1 102 j)) ∧ (∀ i : Nat, i < z → zex (fun j => j < z + 1 ∧ j ≠ p ∧ L1 102 j = h i)) ∧ (hpI h z → ∀ i j : Nat, i < z + 1 → j < z + 1 → i ≠ p → j ≠ p → i ≠ j → L1 102 i ≠ L1 102 j) ∧ (∀ c j : Nat, ¬ c = 99 → ¬ (c = 98 ∧ j = 5) → I1 c j = I c j) ∧ (∀ c j : Nat, ¬ c = 102 → L1 c j = L c j)
      | _ => False, rfl, ?_, ⟨?_, True.intro⟩⟩
  · refine And.intro ⟨(by omega), (zRb rfl)⟩ ⟨(fun h2 => False.elim (by omega)), fun h2 => ?_⟩
    refine And.intro (zA_98 hS) (zrdR (v := some 99) (zR_98_1 hR) ?_)
    refine And.intro (zP_99 hS (by omega) (by omega)) (fun v10 e10 r10 => ?_)
    have f10 : v10 = dd c := (e10.trans ((congrArg (I 99) (by omega)).trans (hdd c (by omega))))
    refine And.intro ⟨r10, (zRb rfl)⟩ ⟨fun h12 => ?_, fun h12 => ?_⟩
    · refine And.intro (zA_98 hS) (zrd (v := z) hz ?_)
      refine And.intro ⟨(by omega), (zRb rfl)⟩ ⟨fun h32 => ?_, (fun h32 => False.elim (by omega))⟩
      refine And.intro (zA_98 hS) (zrdR (v := some 99) (zR_98_1 hR) ?_)
      refine And.intro ⟨(zx0 rfl), (zP_99 hS (by omega) (by omega))⟩ ⟨_, (zWi (by omega)), ?_⟩
      refine And.intro (by omega) ?_
      refine And.intro (by omega) ?_
      refine And.intro (zA_98 hS) (zrd (v := z) hz ?_)
      refine And.intro (zA_98 hS) (zrd (v := z) hz ?_)
      refine And.intro (zA_98 hS) ⟨_, (zWi (by omega)), ?_⟩
      refine ⟨(z, 0, 0), [some (zvr (98)), some (zvi (a)), some (zvi (d)), some (zvl (d * 1024 + c)), none, some (zvi (z))], ⟨rfl, rfl, rfl, (congrArg (fun z => some (zvl z)) (by omega)), (congrArg (fun z => some (zvi z)) rfl), rfl⟩, z, rfl, rfl, rfl, rfl, rfl, (by omega), (by omega), (Eq.trans (b := ((z + 1) : Int)) rfl (by omega)), ?_, (fun j h1 h2 h3 h4 => by rw [hh _ (by omega), hh j (by omega)]; exact hO j h1 (by omega)), (fun j h1 h2 h3 => by exfalso; omega), (fun j h1 h2 => Exists.intro j ⟨by omega, (hh j (by omega)).symm⟩), (fun i hi => Exists.intro i ⟨by omega, by omega, hh i hi⟩), (fun hi i j h1 h2 h3 h4 h5 => by rw [hh i (by omega), hh j (by omega)]; exact hi i j (by omega) (by omega) h5), (fun c j h0 h1 => (zxcj h1 (zxu h0 rfl))), (fun c j h0 => rfl)⟩
      · intro j hj
        refine zxu (by decide) ?_
        unfold upF
        by_cases e : j = c
        · rw [if_pos e, show j = a.toNat by omega]
          exact zxe
        · rw [if_neg e]
          exact zxs (by omega) (hdd j hj)
    · refine And.intro (zA_98 hS) (zrdR (v := some 99) (zR_98_1 hR) ?_)
      refine And.intro (zP_99 hS (by omega) (by omega)) (fun v20 e20 r20 => ?_)
      have f20 : v20 = dd c := (e20.trans ((congrArg (I 99) (by omega)).trans (hdd c (by omega))))
      refine And.intro ⟨r20, (by omega)⟩ ⟨fun h22 => ?_, fun h22 => ?_⟩
      · refine hQ _ _ (by first | (rw [if_pos (by omega)]; exact hz) | (rw [if_neg hsk]; exact hz5)) (by intro j hj; first | (rw [if_pos (by omega)]; exact hdd j hj) | (rw [if_neg hsk]; exact hdd1 j hj)) ?_ ?_ ?_ (fun c j h0 h1 => rfl) (fun c j h0 => rfl)
        · first
          | (rw [if_pos (by omega)]
             exact fun j h1 h2 => by rw [hh _ (by omega), hh j (by omega)]; exact hO j h1 h2)
          | (rw [if_neg hsk]
             intro j h1 h2
             have up : ∀ q, q ≠ p → xu L1 102 (p : Int).toNat (d * 1024 + c) 102 q = L1 102 q := fun q hq => zxs (by omega) rfl
             have at_ : xu L1 102 (p : Int).toNat (d * 1024 + c) 102 p = d * 1024 + c := zxe
             refine (show xu L1 102 (p : Int).toNat (d * 1024 + c) 102 ((j - 1) / 2) ≤ xu L1 102 (p : Int).toNat (d * 1024 + c) 102 j from ?_)
             by_cases q1 : j = p
             · rw [q1, at_, up _ (by omega)]
               first
               | (exfalso; omega)
               | (have e1 : v84 = L1 102 ((p - 1) / 2) := e84.trans (congrArg (L1 102) (by omega))
                  omega)
             · rw [up j q1]
               by_cases q2 : (j - 1) / 2 = p
               · rw [q2, at_]
                 exact (o2 j h1 h2 q2).1
               · rw [up _ q2]
                 exact o1 j h1 h2 q1 q2)
        · first
          | (rw [if_pos (by omega)]
             exact fun j => rfl)
          | (rw [if_neg hsk]
             have up : ∀ q, q ≠ p → xu L1 102 (p : Int).toNat (d * 1024 + c) 102 q = L1 102 q := fun q hq => zxs (by omega) rfl
             have at_ : xu L1 102 (p : Int).toNat (d * 1024 + c) 102 p = d * 1024 + c := zxe
             refine ⟨fun j h1 => ?_, Exists.intro p ⟨by omega, at_⟩, fun i hi => ?_⟩
             · by_cases q1 : j = p
               · left
                 rw [q1]
                 exact at_
               · right
                 obtain ⟨i, a1, a2⟩ := m1 j h1 q1
                 exact Exists.intro i ⟨a1, a2.trans (up j q1).symm⟩
             · obtain ⟨j, a1, a2, a3⟩ := m2 i hi
               exact Exists.intro j ⟨a1, (up j a2).trans a3⟩)
        · intro hi hne hk
          first
          | (exfalso; omega)
          | (have up : ∀ q, q ≠ p → xu L1 102 (p : Int).toNat (d * 1024 + c) 102 q = L1 102 q := fun q hq => zxs (by omega) rfl
             have at_ : xu L1 102 (p : Int).toNat (d * 1024 + c) 102 p = d * 1024 + c := zxe
             have nv : ∀ q, q < z + 1 → q ≠ p → L1 102 q ≠ d * 1024 + c := fun q h1 h2 => by
               obtain ⟨i, a1, a2⟩ := m1 q h1 h2
               rw [← a2]
               exact hne i a1
             intro i j h1 h2 h5
             refine (show xu L1 102 (p : Int).toNat (d * 1024 + c) 102 i ≠ xu L1 102 (p : Int).toNat (d * 1024 + c) 102 j from ?_)
             by_cases q1 : i = p
             · rw [q1, at_, up j (by omega)]
               exact fun e => nv j h2 (by omega) e.symm
             · rw [up i q1]
               by_cases q2 : j = p
               · rw [q2, at_]
                 exact nv i h1 q1
               · rw [up j q2]
                 exact mi hi i j h1 h2 q1 q2 h5)
      · refine And.intro (zA_98 hS) (zrd (v := z) hz ?_)
        refine And.intro ⟨(by omega), (zRb rfl)⟩ ⟨fun h32 => ?_, (fun h32 => False.elim (by omega))⟩
        refine And.intro (zA_98 hS) (zrdR (v := some 99) (zR_98_1 hR) ?_)
        refine And.intro ⟨(zx0 rfl), (zP_99 hS (by omega) (by omega))⟩ ⟨_, (zWi (by omega)), ?_⟩
        refine And.intro (by omega) ?_
        refine And.intro (by omega) ?_
        refine And.intro (zA_98 hS) (zrd (v := z) hz ?_)
        refine And.intro (zA_98 hS) (zrd (v := z) hz ?_)
        refine And.intro (zA_98 hS) ⟨_, (zWi (by omega)), ?_⟩
        refine ⟨(z, 0, 0), [some (zvr (98)), some (zvi (a)), some (zvi (d)), some (zvl (d * 1024 + c)), none, some (zvi (z))], ⟨rfl, rfl, rfl, (congrArg (fun z => some (zvl z)) (by omega)), (congrArg (fun z => some (zvi z)) rfl), rfl⟩, z, rfl, rfl, rfl, rfl, rfl, (by omega), (by omega), (Eq.trans (b := ((z + 1) : Int)) rfl (by omega)), ?_, (fun j h1 h2 h3 h4 => by rw [hh _ (by omega), hh j (by omega)]; exact hO j h1 (by omega)), (fun j h1 h2 h3 => by exfalso; omega), (fun j h1 h2 => Exists.intro j ⟨by omega, (hh j (by omega)).symm⟩), (fun i hi => Exists.intro i ⟨by omega, by omega, hh i hi⟩), (fun hi i j h1 h2 h3 h4 h5 => by rw [hh i (by omega), hh j (by omega)]; exact hi i j (by omega) (by omega) h5), (fun c j h0 h1 => (zxcj h1 (zxu h0 rfl))), (fun c j h0 => rfl)⟩
        · intro j hj
          refine zxu (by decide) ?_
          unfold upF
          by_cases e : j = c
          · rw [if_pos e, show j = a.toNat by omega]
            exact zxe
          · rw [if_neg e]
            exact zxs (by omega) (hdd j hj)
  · rintro nM lsM stM I1 L1 R1 S1 hz1 ⟨p, rfl, rfl, rfl, rfl, rfl, hsk, hp, hz5, hdd1, o1, o2, m1, m2, mi, fr, frL⟩
    refine And.intro (by omega) ⟨fun h71 => ?_, fun h71 => ?_⟩
    · refine And.intro (zA_98 hS) (zrdR (v := some 102) (zR_98_4 hR) ?_)
      refine And.intro ⟨(zx0 rfl), (zP_102 hS (by omega) (by omega))⟩ ⟨_, zW6i (by omega), ?_⟩
      refine hQ _ _ (by first | (rw [if_pos (by omega)]; exact hz) | (rw [if_neg hsk]; exact hz5)) (by intro j hj; first | (rw [if_pos (by omega)]; exact hdd j hj) | (rw [if_neg hsk]; exact hdd1 j hj)) ?_ ?_ ?_ (fun c j h0 h1 => ((fr c j (by omega) (by omega)).trans rfl)) (fun c j h0 => (zxu h0 ((frL c j (by omega)).trans rfl)))
      · first
        | (rw [if_pos (by omega)]
           exact fun j h1 h2 => by rw [hh _ (by omega), hh j (by omega)]; exact hO j h1 h2)
        | (rw [if_neg hsk]
           intro j h1 h2
           have up : ∀ q, q ≠ p → xu L1 102 (p : Int).toNat (d * 1024 + c) 102 q = L1 102 q := fun q hq => zxs (by omega) rfl
           have at_ : xu L1 102 (p : Int).toNat (d * 1024 + c) 102 p = d * 1024 + c := zxe
           refine (show xu L1 102 (p : Int).toNat (d * 1024 + c) 102 ((j - 1) / 2) ≤ xu L1 102 (p : Int).toNat (d * 1024 + c) 102 j from ?_)
           by_cases q1 : j = p
           · rw [q1, at_, up _ (by omega)]
             first
             | (exfalso; omega)
             | (have e1 : v84 = L1 102 ((p - 1) / 2) := e84.trans (congrArg (L1 102) (by omega))
                omega)
           · rw [up j q1]
             by_cases q2 : (j - 1) / 2 = p
             · rw [q2, at_]
               exact (o2 j h1 h2 q2).1
             · rw [up _ q2]
               exact o1 j h1 h2 q1 q2)
      · first
        | (rw [if_pos (by omega)]
           exact fun j => rfl)
        | (rw [if_neg hsk]
           have up : ∀ q, q ≠ p → xu L1 102 (p : Int).toNat (d * 1024 + c) 102 q = L1 102 q := fun q hq => zxs (by omega) rfl
           have at_ : xu L1 102 (p : Int).toNat (d * 1024 + c) 102 p = d * 1024 + c := zxe
           refine ⟨fun j h1 => ?_, Exists.intro p ⟨by omega, at_⟩, fun i hi => ?_⟩
           · by_cases q1 : j = p
             · left
               rw [q1]
               exact at_
             · right
               obtain ⟨i, a1, a2⟩ := m1 j h1 q1
               exact Exists.intro i ⟨a1, a2.trans (up j q1).symm⟩
           · obtain ⟨j, a1, a2, a3⟩ := m2 i hi
             exact Exists.intro j ⟨a1, (up j a2).trans a3⟩)
      · intro hi hne hk
        first
        | (exfalso; omega)
        | (have up : ∀ q, q ≠ p → xu L1 102 (p : Int).toNat (d * 1024 + c) 102 q = L1 102 q := fun q hq => zxs (by omega) rfl
           have at_ : xu L1 102 (p : Int).toNat (d * 1024 + c) 102 p = d * 1024 + c := zxe
           have nv : ∀ q, q < z + 1 → q ≠ p → L1 102 q ≠ d * 1024 + c := fun q h1 h2 => by
             obtain ⟨i, a1, a2⟩ := m1 q h1 h2
             rw [← a2]
             exact hne i a1
           intro i j h1 h2 h5
           refine (show xu L1 102 (p : Int).toNat (d * 1024 + c) 102 i ≠ xu L1 102 (p : Int).toNat (d * 1024 + c) 102 j from ?_)
           by_cases q1 : i = p
           · rw [q1, at_, up j (by omega)]
             exact fun e => nv j h2 (by omega) e.symm
           · rw [up i q1]
             by_cases q2 : j = p
             · rw [q2, at_]
               exact nv i h1 q1
             · rw [up j q2]
               exact mi hi i j h1 h2 q1 q2 h5)
    · refine And.intro (zA_98 hS) (zrdR (v := some 102) (zR_98_4 hR) ?_)
      refine And.intro ⟨(by omega), (zRb rfl), (by decide)⟩ (zdv (by omega) (fun q83 e83 => ?_))
      refine And.intro (zP_102 hS (by omega) (by omega)) (fun v84 e84 r84 => ?_)
      refine ⟨_, _, ⟨zW6i r84, zW6i (by omega)⟩, fun z86 c86 => ?_⟩
      refine And.intro c86.2.2 ⟨fun h87 => ?_, fun h87 => ?_⟩
      · refine And.intro (zA_98 hS) (zrdR (v := some 102) (zR_98_4 hR) ?_)
        refine And.intro ⟨(zx0 rfl), (zP_102 hS (by omega) (by omega))⟩ ⟨_, zW6i (by omega), ?_⟩
        refine hQ _ _ (by first | (rw [if_pos (by omega)]; exact hz) | (rw [if_neg hsk]; exact hz5)) (by intro j hj; first | (rw [if_pos (by omega)]; exact hdd j hj) | (rw [if_neg hsk]; exact hdd1 j hj)) ?_ ?_ ?_ (fun c j h0 h1 => ((fr c j (by omega) (by omega)).trans rfl)) (fun c j h0 => (zxu h0 ((frL c j (by omega)).trans rfl)))
        · first
          | (rw [if_pos (by omega)]
             exact fun j h1 h2 => by rw [hh _ (by omega), hh j (by omega)]; exact hO j h1 h2)
          | (rw [if_neg hsk]
             intro j h1 h2
             have up : ∀ q, q ≠ p → xu L1 102 (p : Int).toNat (d * 1024 + c) 102 q = L1 102 q := fun q hq => zxs (by omega) rfl
             have at_ : xu L1 102 (p : Int).toNat (d * 1024 + c) 102 p = d * 1024 + c := zxe
             refine (show xu L1 102 (p : Int).toNat (d * 1024 + c) 102 ((j - 1) / 2) ≤ xu L1 102 (p : Int).toNat (d * 1024 + c) 102 j from ?_)
             by_cases q1 : j = p
             · rw [q1, at_, up _ (by omega)]
               first
               | (exfalso; omega)
               | (have e1 : v84 = L1 102 ((p - 1) / 2) := e84.trans (congrArg (L1 102) (by omega))
                  omega)
             · rw [up j q1]
               by_cases q2 : (j - 1) / 2 = p
               · rw [q2, at_]
                 exact (o2 j h1 h2 q2).1
               · rw [up _ q2]
                 exact o1 j h1 h2 q1 q2)
        · first
          | (rw [if_pos (by omega)]
             exact fun j => rfl)
          | (rw [if_neg hsk]
             have up : ∀ q, q ≠ p → xu L1 102 (p : Int).toNat (d * 1024 + c) 102 q = L1 102 q := fun q hq => zxs (by omega) rfl
             have at_ : xu L1 102 (p : Int).toNat (d * 1024 + c) 102 p = d * 1024 + c := zxe
             refine ⟨fun j h1 => ?_, Exists.intro p ⟨by omega, at_⟩, fun i hi => ?_⟩
             · by_cases q1 : j = p
               · left
                 rw [q1]
                 exact at_
               · right
                 obtain ⟨i, a1, a2⟩ := m1 j h1 q1
                 exact Exists.intro i ⟨a1, a2.trans (up j q1).symm⟩
             · obtain ⟨j, a1, a2, a3⟩ := m2 i hi
               exact Exists.intro j ⟨a1, (up j a2).trans a3⟩)
        · intro hi hne hk
          first
          | (exfalso; omega)
          | (have up : ∀ q, q ≠ p → xu L1 102 (p : Int).toNat (d * 1024 + c) 102 q = L1 102 q := fun q hq => zxs (by omega) rfl
             have at_ : xu L1 102 (p : Int).toNat (d * 1024 + c) 102 p = d * 1024 + c := zxe
             have nv : ∀ q, q < z + 1 → q ≠ p → L1 102 q ≠ d * 1024 + c := fun q h1 h2 => by
               obtain ⟨i, a1, a2⟩ := m1 q h1 h2
               rw [← a2]
               exact hne i a1
             intro i j h1 h2 h5
             refine (show xu L1 102 (p : Int).toNat (d * 1024 + c) 102 i ≠ xu L1 102 (p : Int).toNat (d * 1024 + c) 102 j from ?_)
             by_cases q1 : i = p
             · rw [q1, at_, up j (by omega)]
               exact fun e => nv j h2 (by omega) e.symm
             · rw [up i q1]
               by_cases q2 : j = p
               · rw [q2, at_]
                 exact nv i h1 q1
               · rw [up j q2]
                 exact mi hi i j h1 h2 q1 q2 h5)
      · refine And.intro (zA_98 hS) (zrdR (v := some 102) (zR_98_4 hR) ?_)
        refine And.intro (zA_98 hS) (zrdR (v := some 102) (zR_98_4 hR) ?_)
        refine And.intro ⟨(by omega), (zRb rfl), (by decide)⟩ (zdv (by omega) (fun q105 e105 => ?_))
        refine And.intro (zP_102 hS (by omega) (by omega)) (fun v106 e106 r106 => ?_)
        refine And.intro ⟨(zx0 rfl), (zP_102 hS (by omega) (by omega))⟩ ⟨_, zW6i r106, ?_⟩
        refine And.intro ⟨(by omega), (zRb rfl), (by decide)⟩ (zdv (by omega) (fun q113 e113 => ?_))
        refine ⟨((((p - 1) / 2) : Nat), 0, 0), (zlt6 (by omega)), [some (zvr (98)), some (zvi (a)), some (zvi (d)), some (zvl (d * 1024 + c)), none, some (zvi ((((p - 1) / 2) : Nat)))], ⟨rfl, rfl, rfl, rfl, (congrArg (fun z => some (zvi z)) (by omega)), rfl⟩, ((p - 1) / 2), rfl, rfl, rfl, rfl, rfl, hsk, (by omega), (Eq.trans (b := ((z + 1) : Int)) hz5 (by omega)), (by first | exact hdd1 | exact (fun j h1 => rfl.trans (hdd1 j h1)) | (clear hQ; grind [xu])), ?_, ?_, ?_, ?_, ?_, (fun c j h0 h1 => ((fr c j (by omega) (by omega)).trans rfl)), (fun c j h0 => (zxu h0 ((frL c j (by omega)).trans rfl)))⟩
        · intro j h1 h2 h3 h4
          have e1 : v84 = L1 102 ((p - 1) / 2) := e84.trans (congrArg (L1 102) (by omega))
          by_cases q1 : j = p
          · exfalso
            rw [q1] at h4
            exact h4 rfl
          · refine (show xu L1 102 (p : Int).toNat v106 102 ((j - 1) / 2) ≤ xu L1 102 (p : Int).toNat v106 102 j from ?_)
            rw [show xu L1 102 (p : Int).toNat v106 102 j = L1 102 j from zxs (by omega) rfl]
            by_cases q2 : (j - 1) / 2 = p
            · rw [q2, show xu L1 102 (p : Int).toNat v106 102 p = v106 from zxe]
              have w := (o2 j h1 h2 q2).2 (by omega)
              have e2 : v106 = L1 102 ((p - 1) / 2) := e106.trans (congrArg (L1 102) (by omega))
              omega
            · rw [show xu L1 102 (p : Int).toNat v106 102 ((j - 1) / 2) = L1 102 ((j - 1) / 2) from zxs (by omega) rfl]
              exact o1 j h1 h2 q1 q2
        · intro j h1 h2 h3
          have e1 : v84 = L1 102 ((p - 1) / 2) := e84.trans (congrArg (L1 102) (by omega))
          have e2 : v106 = L1 102 ((p - 1) / 2) := e106.trans (congrArg (L1 102) (by omega))
          have up : ∀ q, q ≠ p → xu L1 102 (p : Int).toNat v106 102 q = L1 102 q := fun q hq => zxs (by omega) rfl
          have at_ : xu L1 102 (p : Int).toNat v106 102 p = v106 := zxe
          refine (show d * 1024 + c ≤ xu L1 102 (p : Int).toNat v106 102 j ∧ (0 < (p - 1) / 2 → xu L1 102 (p : Int).toNat v106 102 (((p - 1) / 2 - 1) / 2) ≤ xu L1 102 (p : Int).toNat v106 102 j) from ?_)
          by_cases q1 : j = p
          · rw [q1, at_]
            refine ⟨by omega, fun h9 => ?_⟩
            rw [up _ (by omega), e2]
            exact o1 ((p - 1) / 2) h9 (by omega) (by omega) (by omega)
          · rw [up j q1]
            have w := o1 j h1 h2 q1 (by omega)
            rw [h3] at w
            refine ⟨by omega, fun h9 => ?_⟩
            rw [up _ (by omega)]
            exact Int.le_trans (o1 ((p - 1) / 2) h9 (by omega) (by omega) (by omega)) w
        · intro j h1 h2
          have e2 : v106 = L1 102 ((p - 1) / 2) := e106.trans (congrArg (L1 102) (by omega))
          refine (show zex (fun i => i < z ∧ h i = xu L1 102 (p : Int).toNat v106 102 j) from ?_)
          by_cases q1 : j = p
          · rw [q1, show xu L1 102 (p : Int).toNat v106 102 p = v106 from zxe, e2]
            exact m1 _ (by omega) (by omega)
          · rw [show xu L1 102 (p : Int).toNat v106 102 j = L1 102 j from zxs (by omega) rfl]
            exact m1 j h1 q1
        · intro i hi
          have e2 : v106 = L1 102 ((p - 1) / 2) := e106.trans (congrArg (L1 102) (by omega))
          obtain ⟨j, a1, a2, a3⟩ := m2 i hi
          by_cases q1 : j = (p - 1) / 2
          · exact Exists.intro p ⟨by omega, by omega, (show xu L1 102 (p : Int).toNat v106 102 p = h i from zxe.trans (by rw [e2, ← q1]; exact a3))⟩
          · exact Exists.intro j ⟨a1, q1, zxs (by omega) a3⟩
        · intro hi i j h1 h2 h3 h4 h5
          have e2 : v106 = L1 102 ((p - 1) / 2) := e106.trans (congrArg (L1 102) (by omega))
          have up : ∀ q, q ≠ p → xu L1 102 (p : Int).toNat v106 102 q = L1 102 q := fun q hq => zxs (by omega) rfl
          have at_ : xu L1 102 (p : Int).toNat v106 102 p = v106 := zxe
          refine (show xu L1 102 (p : Int).toNat v106 102 i ≠ xu L1 102 (p : Int).toNat v106 102 j from ?_)
          by_cases q1 : i = p
          · rw [q1, at_, up j (by omega), e2]
            exact mi hi _ j (by omega) h2 (by omega) (by omega) (by omega)
          · rw [up i q1]
            by_cases q2 : j = p
            · rw [q2, at_, e2]
              exact mi hi i _ h1 (by omega) q1 (by omega) (by omega)
            · rw [up j q2]
              exact mi hi i j h1 h2 q1 q2 h5)
