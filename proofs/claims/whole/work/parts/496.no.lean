/-! no -/
def T_V_can : ZT := fun args I L R S Q => ∃ (a : Int) (a_ : Nat) (b : Int) (b_ : Nat), args = [zvi a, zvi b] ∧ (a = a_ ∧ a_ ≤ 9) ∧ (b = b_ ∧ b_ ≤ 9) ∧ ∀ (v : Int), ((v = 1 ∧ tCn a_ b_) ∨ (v = 0 ∧ ¬ tCn a_ b_)) → (0 ≤ v ∧ v ≤ 1) → Q (some (zvi (v))) I L R S
theorem sn_V_can : ZSnd 1 20 4 T_V_can := ZSnd.of (zT20_4 0) (by
  rintro args I L R S Q hz ⟨a, a_, b, b_, rfl, ha, hb, hQ⟩
  refine And.intro rfl ?_
  refine And.intro (by omega) (And.intro (And.intro (fun h1 => ?_) (And.intro (fun h1 => ?_) (And.intro (fun h1 => ?_) (And.intro (fun h1 => ?_) (And.intro (fun h1 => ?_) (And.intro (fun h1 => ?_) (And.intro (fun h1 => ?_) (And.intro (fun h1 => ?_) (And.intro (fun h1 => ?_) True.intro))))))))) (fun h1 => ?_))
  · refine And.intro (by omega) ⟨fun h53 => ?_, fun h53 => ?_⟩
    · refine And.intro (Or.inr rfl) ?_
      refine hQ _ ?_ (by omega)
      · unfold tCn
        first | exact Or.inl ⟨rfl, by omega⟩ | exact Or.inr ⟨rfl, by omega⟩
    · refine And.intro ⟨(by omega), (zRb rfl)⟩ ⟨fun h58 => ?_, fun h58 => ?_⟩
      · refine And.intro (Or.inl rfl) ?_
        refine hQ _ ?_ (by omega)
        · unfold tCn
          first | exact Or.inl ⟨rfl, by omega⟩ | exact Or.inr ⟨rfl, by omega⟩
      · refine And.intro (Or.inr rfl) ?_
        refine hQ _ ?_ (by omega)
        · unfold tCn
          first | exact Or.inl ⟨rfl, by omega⟩ | exact Or.inr ⟨rfl, by omega⟩
  · refine And.intro ⟨(by omega), (zRb rfl)⟩ ⟨fun h69 => ?_, fun h69 => ?_⟩
    · refine And.intro (Or.inl rfl) ?_
      refine hQ _ ?_ (by omega)
      · unfold tCn
        first | exact Or.inl ⟨rfl, by omega⟩ | exact Or.inr ⟨rfl, by omega⟩
    · refine And.intro (Or.inr rfl) ?_
      refine hQ _ ?_ (by omega)
      · unfold tCn
        first | exact Or.inl ⟨rfl, by omega⟩ | exact Or.inr ⟨rfl, by omega⟩
  · refine And.intro ⟨(by omega), (zRb rfl)⟩ ⟨fun h80 => ?_, fun h80 => ?_⟩
    · refine And.intro (Or.inl rfl) ?_
      refine hQ _ ?_ (by omega)
      · unfold tCn
        first | exact Or.inl ⟨rfl, by omega⟩ | exact Or.inr ⟨rfl, by omega⟩
    · refine And.intro (Or.inr rfl) ?_
      refine hQ _ ?_ (by omega)
      · unfold tCn
        first | exact Or.inl ⟨rfl, by omega⟩ | exact Or.inr ⟨rfl, by omega⟩
  · refine And.intro ⟨(by omega), (zRb rfl)⟩ ⟨fun h91 => ?_, fun h91 => ?_⟩
    · refine And.intro (Or.inl rfl) ?_
      refine hQ _ ?_ (by omega)
      · unfold tCn
        first | exact Or.inl ⟨rfl, by omega⟩ | exact Or.inr ⟨rfl, by omega⟩
    · refine And.intro (Or.inr rfl) ?_
      refine hQ _ ?_ (by omega)
      · unfold tCn
        first | exact Or.inl ⟨rfl, by omega⟩ | exact Or.inr ⟨rfl, by omega⟩
  · refine And.intro ⟨(by omega), (zRb rfl)⟩ ⟨fun h91 => ?_, fun h91 => ?_⟩
    · refine And.intro (Or.inl rfl) ?_
      refine hQ _ ?_ (by omega)
      · unfold tCn
        first | exact Or.inl ⟨rfl, by omega⟩ | exact Or.inr ⟨rfl, by omega⟩
    · refine And.intro (Or.inr rfl) ?_
      refine hQ _ ?_ (by omega)
      · unfold tCn
        first | exact Or.inl ⟨rfl, by omega⟩ | exact Or.inr ⟨rfl, by omega⟩
  · refine And.intro ⟨(by omega), (zRb rfl)⟩ ⟨fun h102 => ?_, fun h102 => ?_⟩
    · refine And.intro (Or.inr rfl) ?_
      refine hQ _ ?_ (by omega)
      · unfold tCn
        first | exact Or.inl ⟨rfl, by omega⟩ | exact Or.inr ⟨rfl, by omega⟩
    · refine And.intro ⟨(by omega), (zRb rfl)⟩ ⟨fun h107 => ?_, fun h107 => ?_⟩
      · refine And.intro (Or.inl rfl) ?_
        refine hQ _ ?_ (by omega)
        · unfold tCn
          first | exact Or.inl ⟨rfl, by omega⟩ | exact Or.inr ⟨rfl, by omega⟩
      · refine And.intro (Or.inr rfl) ?_
        refine hQ _ ?_ (by omega)
        · unfold tCn
          first | exact Or.inl ⟨rfl, by omega⟩ | exact Or.inr ⟨rfl, by omega⟩
  · refine And.intro ⟨(by omega), (zRb rfl)⟩ ⟨fun h69 => ?_, fun h69 => ?_⟩
    · refine And.intro (Or.inl rfl) ?_
      refine hQ _ ?_ (by omega)
      · unfold tCn
        first | exact Or.inl ⟨rfl, by omega⟩ | exact Or.inr ⟨rfl, by omega⟩
    · refine And.intro (Or.inr rfl) ?_
      refine hQ _ ?_ (by omega)
      · unfold tCn
        first | exact Or.inl ⟨rfl, by omega⟩ | exact Or.inr ⟨rfl, by omega⟩
  · refine And.intro ⟨(by omega), (zRb rfl)⟩ ⟨fun h118 => ?_, fun h118 => ?_⟩
    · refine And.intro (Or.inr rfl) ?_
      refine hQ _ ?_ (by omega)
      · unfold tCn
        first | exact Or.inl ⟨rfl, by omega⟩ | exact Or.inr ⟨rfl, by omega⟩
    · refine And.intro ⟨(by omega), (zRb rfl)⟩ ⟨fun h123 => ?_, fun h123 => ?_⟩
      · refine And.intro (Or.inl rfl) ?_
        refine hQ _ ?_ (by omega)
        · unfold tCn
          first | exact Or.inl ⟨rfl, by omega⟩ | exact Or.inr ⟨rfl, by omega⟩
      · refine And.intro (Or.inr rfl) ?_
        refine hQ _ ?_ (by omega)
        · unfold tCn
          first | exact Or.inl ⟨rfl, by omega⟩ | exact Or.inr ⟨rfl, by omega⟩
  · refine And.intro ⟨(by omega), (zRb rfl)⟩ ⟨fun h134 => ?_, fun h134 => ?_⟩
    · refine And.intro (Or.inl rfl) ?_
      refine hQ _ ?_ (by omega)
      · unfold tCn
        first | exact Or.inl ⟨rfl, by omega⟩ | exact Or.inr ⟨rfl, by omega⟩
    · refine And.intro (Or.inr rfl) ?_
      refine hQ _ ?_ (by omega)
      · unfold tCn
        first | exact Or.inl ⟨rfl, by omega⟩ | exact Or.inr ⟨rfl, by omega⟩
  · refine And.intro (Or.inl rfl) ?_
    refine hQ _ ?_ (by omega)
    · unfold tCn
      first | exact Or.inl ⟨rfl, by omega⟩ | exact Or.inr ⟨rfl, by omega⟩)
def T_V_lst : ZT := fun args I L R S Q => ∃ (a : Int) (a_ : Nat) (i : Int) (i_ : Nat), args = [zvi a, zvi i] ∧ (a = a_ ∧ 1 ≤ a_ ∧ a_ ≤ 8) ∧ (i = i_ ∧ i_ < tFn a_) ∧ (¬ tFc a_ i_ = 84) ∧ ∀ (v : Int), (v = tLo (tFc a_ i_)) → (-1000000000 ≤ v ∧ v ≤ 1000000000) → Q (some (zvl (v))) I L R S
theorem sn_V_lst : ZSnd 2 20 22 T_V_lst := ZSnd.of (zT20_22 1) (by
  rintro args I L R S Q hz ⟨a, a_, i, i_, rfl, ha, hi, ht, hQ⟩
  have hfn := (tFn_b a_ (by omega)).1
  have hfo := tFc_o a_ (by omega) (by omega) i_ hi.2
  have hfg : tFc a_ i_ = 78 ∨ tLo (tFc a_ i_) = tRl a_ := by have w := V_lst_f a_ (by omega) i_ (by omega); omega
  have hf7 : tLo 78 = -1000000000 := rfl
  refine And.intro rfl ?_
  refine ⟨_, sn_V_fld.up (by decide), ?_⟩
  refine ⟨(a : Int), a_, (i : Int), i_, rfl, (by omega), (by omega), ?_⟩
  intro v2o p2hv p2bhv2
  refine And.intro ⟨(by omega), (zRb rfl)⟩ ⟨fun h6 => ?_, fun h6 => ?_⟩
  · refine And.intro ⟨(by omega), (zRb rfl)⟩ ⟨fun h15 => ?_, fun h15 => ?_⟩
    · refine And.intro ⟨(by omega), (zRb rfl)⟩ ⟨fun h24 => ?_, fun h24 => ?_⟩
      · refine hQ _ ?_ (by omega)
        · rcases hfg with w | w
          · first
            | (exfalso; omega)
            | (rw [w, hf7])
          · first
            | (rw [hfo.2.mpr (by omega), hf7])
            | (rw [w]
               unfold tRl
               (repeat' split) <;> omega)
      · refine hQ _ ?_ (by omega)
        · rcases hfg with w | w
          · first
            | (exfalso; omega)
            | (rw [w, hf7])
          · first
            | (rw [hfo.2.mpr (by omega), hf7])
            | (rw [w]
               unfold tRl
               (repeat' split) <;> omega)
    · refine hQ _ ?_ (by omega)
      · rcases hfg with w | w
        · first
          | (exfalso; omega)
          | (rw [w, hf7])
        · first
          | (rw [hfo.2.mpr (by omega), hf7])
          | (rw [w]
             unfold tRl
             (repeat' split) <;> omega)
  · refine hQ _ ?_ (by omega)
    · rcases hfg with w | w
      · first
        | (exfalso; omega)
        | (rw [w, hf7])
      · first
        | (rw [hfo.2.mpr (by omega), hf7])
        | (rw [w]
           unfold tRl
           (repeat' split) <;> omega))
def T_V_mst : ZT := fun args I L R S Q => ∃ (a : Int) (a_ : Nat) (i : Int) (i_ : Nat), args = [zvi a, zvi i] ∧ (a = a_ ∧ 1 ≤ a_ ∧ a_ ≤ 8) ∧ (i = i_ ∧ i_ < tFn a_) ∧ (¬ tFc a_ i_ = 84) ∧ ∀ (v : Int), (v = tHi (tFc a_ i_)) → (-1000000000 ≤ v ∧ v ≤ 1000000000) → Q (some (zvl (v))) I L R S
theorem sn_V_mst : ZSnd 2 20 24 T_V_mst := ZSnd.of (zT20_24 1) (by
  rintro args I L R S Q hz ⟨a, a_, i, i_, rfl, ha, hi, ht, hQ⟩
  have hfn := (tFn_b a_ (by omega)).1
  have hfo := tFc_o a_ (by omega) (by omega) i_ hi.2
  have hfg : tFc a_ i_ = 78 ∨ tHi (tFc a_ i_) = tRh a_ := by have w := V_mst_f a_ (by omega) i_ (by omega); omega
  have hf7 : tHi 78 = 1000000000 := rfl
  refine And.intro rfl ?_
  refine ⟨_, sn_V_fld.up (by decide), ?_⟩
  refine ⟨(a : Int), a_, (i : Int), i_, rfl, (by omega), (by omega), ?_⟩
  intro v2o p2hv p2bhv2
  refine And.intro ⟨(by omega), (zRb rfl)⟩ ⟨fun h6 => ?_, fun h6 => ?_⟩
  · refine And.intro ⟨(by omega), (zRb rfl)⟩ ⟨fun h15 => ?_, fun h15 => ?_⟩
    · refine And.intro ⟨(by omega), (zRb rfl)⟩ ⟨fun h26 => ?_, fun h26 => ?_⟩
      · refine hQ _ ?_ (by omega)
        · rcases hfg with w | w
          · first
            | (exfalso; omega)
            | (rw [w, hf7])
          · first
            | (rw [hfo.2.mpr (by omega), hf7])
            | (rw [w]
               unfold tRh
               (repeat' split) <;> omega)
      · refine hQ _ ?_ (by omega)
        · rcases hfg with w | w
          · first
            | (exfalso; omega)
            | (rw [w, hf7])
          · first
            | (rw [hfo.2.mpr (by omega), hf7])
            | (rw [w]
               unfold tRh
               (repeat' split) <;> omega)
    · refine hQ _ ?_ (by omega)
      · rcases hfg with w | w
        · first
          | (exfalso; omega)
          | (rw [w, hf7])
        · first
          | (rw [hfo.2.mpr (by omega), hf7])
          | (rw [w]
             unfold tRh
             (repeat' split) <;> omega)
  · refine hQ _ ?_ (by omega)
    · rcases hfg with w | w
      · first
        | (exfalso; omega)
        | (rw [w, hf7])
      · first
        | (rw [hfo.2.mpr (by omega), hf7])
        | (rw [w]
           unfold tRh
           (repeat' split) <;> omega))
def T_V_fin : ZT := fun args I L R S Q => ∃ (a : Int) (a_ : Nat) (x : Int), args = [zvi a, zvi x] ∧ (a = a_ ∧ 1 ≤ a_ ∧ a_ ≤ 9) ∧ (0 ≤ x ∧ x ≤ 9) ∧ ∀ (v : Int), (v = tFv a_ x) → (0 ≤ v ∧ v ≤ 5) → Q (some (zvi (v))) I L R S
theorem sn_V_fin : ZSnd 2 20 12 T_V_fin := ZSnd.loops (zT20_12 1) (by
  rintro args I L R S Q hz ⟨a, a_, x, rfl, ha, hx, hQ⟩
  obtain ⟨f1, f2, f3, f4⟩ := tFn_b a_ (by omega)
  have hg := f4 (by omega)
  refine ⟨[2], fun nM tM lsM stM I1 L1 R1 S1 => match tM with
      | 2 => ∃ (m : Nat), nM = ((10 - m), 0, 0) ∧ lsM = [some (zvi (a_)), some (zvi (x)), some (zvi (m))] ∧ stM = [] ∧ I1 = I ∧ L1 = L ∧ R1 = R ∧ S1 = S ∧ (m ≤ tFn a_) ∧ (m ≤ 5)
      | _ => False, rfl, ?_, ⟨?_, True.intro⟩⟩
  · refine ⟨((10 - (0 : Nat)), 0, 0), [some (zvi (a_)), some (zvi (x)), some (zvi ((0 : Nat)))], ⟨(congrArg (fun z => some (zvi z)) (by omega)), rfl, rfl, rfl⟩, 0, rfl, rfl, rfl, rfl, rfl, rfl, rfl, (by omega), (by omega)⟩
  · rintro nM lsM stM I1 L1 R1 S1 hz1 ⟨m, rfl, rfl, rfl, rfl, rfl, rfl, rfl, hm, hm5⟩
    have hgm := hg m
    refine ⟨_, sn_V_fld.up (by decide), ?_⟩
    refine ⟨(a_ : Int), a_, (m : Int), m, rfl, (by omega), (by omega), ?_⟩
    intro v4o p4hv p4bhv2
    refine And.intro (by omega) ⟨fun h7 => ?_, fun h7 => ?_⟩
    · refine And.intro ⟨(by omega), (zRb rfl)⟩ ⟨fun h18 => ?_, fun h18 => ?_⟩
      · refine And.intro ⟨(by omega), (zRb rfl)⟩ ⟨fun h29 => ?_, fun h29 => ?_⟩
        · refine hQ _ (by first | (rw [tFv_1 (by omega)]; omega) | (rw [tFv_0 (by omega)]; omega)) (by omega)
        · refine And.intro ⟨(by omega), (zRb rfl)⟩ ⟨fun h34 => ?_, fun h34 => ?_⟩
          · refine hQ _ (by first | (rw [tFv_1 (by omega)]; omega) | (rw [tFv_0 (by omega)]; omega)) (by omega)
          · refine hQ _ (by first | (rw [tFv_1 (by omega)]; omega) | (rw [tFv_0 (by omega)]; omega)) (by omega)
      · refine And.intro ⟨(by omega), (zRb rfl)⟩ ⟨fun h23 => ?_, fun h23 => ?_⟩
        · refine hQ _ (by first | (rw [tFv_1 (by omega)]; omega) | (rw [tFv_0 (by omega)]; omega)) (by omega)
        · refine And.intro ⟨(by omega), (zRb rfl)⟩ ⟨fun h29 => ?_, (fun h29 => False.elim (by omega))⟩
          refine hQ _ (by first | (rw [tFv_1 (by omega)]; omega) | (rw [tFv_0 (by omega)]; omega)) (by omega)
    · refine ⟨((10 - (m + 1)), 0, 0), zlt6 (by omega), [some (zvi (a_)), some (zvi (x)), some (zvi ((m + 1)))], ⟨rfl, rfl, rfl, rfl⟩, (m + 1), rfl, rfl, rfl, rfl, rfl, rfl, rfl, (by omega), (by omega)⟩)
def T_V_blk : ZT := fun args I L R S Q => ∃ (k : Nat) (fd : Nat) (a : Int) (a_ : Nat), args = [zvr k, zvi fd, zvi a] ∧ (zDy zT20 zF20 k R S) ∧ (fd ≤ 199) ∧ (a = a_ ∧ a_ ≤ 9) ∧ ∀ (I' : ZI) (L' : ZI), (I' (k + 2) fd = a_) → (I' (k + 8) fd = 0) → (∀ w, w < 2 → I' (k + 5) (2 * fd + w) = 0) → (∀ w, w < 5 → L' (k + 4) (5 * fd + w) = tN1 a_ w) → (∀ c j : Nat, ¬ (c = k + 2 ∧ j = fd) → ¬ (c = k + 8 ∧ j = fd) → ¬ (c = k + 5 ∧ 2 * fd ≤ j ∧ j < 2 * fd + 2) → I' c j = I c j) → (∀ c j : Nat, ¬ (c = k + 4 ∧ 5 * fd ≤ j ∧ j < 5 * fd + 5) → L' c j = L c j) → Q none I' L' R S
theorem sn_V_blk : ZSnd 1 20 1 T_V_blk := ZSnd.of (zT20_1 0) (by
  rintro args I L R S Q hz ⟨k, fd, a, a_, rfl, hD, hf, ha, hQ⟩
  have hk40 := hD.1
  refine And.intro rfl ?_
  refine And.intro ⟨(zRb rfl), (zRb rfl)⟩ (zbf rfl ?_)
  refine And.intro (zDX hD 0 rfl) (zrdR (v := some (k + 4)) (zDR hD 3 rfl) ?_)
  refine And.intro ⟨(by show 40 ≤ _; omega), (zDP hD 4 rfl rfl (by omega) (by omega))⟩ ⟨_, zW6i (zRL rfl), ?_⟩
  refine And.intro ⟨(zRb rfl), (zRb rfl)⟩ (zbf rfl ?_)
  refine And.intro (zDX hD 0 rfl) (zrdR (v := some (k + 4)) (zDR hD 3 rfl) ?_)
  refine And.intro ⟨(by show 40 ≤ _; omega), (zDP hD 4 rfl rfl (by omega) (by omega))⟩ ⟨_, zW6i (zRL rfl), ?_⟩
  refine And.intro ⟨(zRb rfl), (zRb rfl)⟩ (zbf rfl ?_)
  refine And.intro (zDX hD 0 rfl) (zrdR (v := some (k + 4)) (zDR hD 3 rfl) ?_)
  refine And.intro ⟨(by show 40 ≤ _; omega), (zDP hD 4 rfl rfl (by omega) (by omega))⟩ ⟨_, zW6i (zRL rfl), ?_⟩
  refine And.intro ⟨(zRb rfl), (zRb rfl)⟩ (zbf rfl ?_)
  refine And.intro (zDX hD 0 rfl) (zrdR (v := some (k + 4)) (zDR hD 3 rfl) ?_)
  refine And.intro ⟨(by show 40 ≤ _; omega), (zDP hD 4 rfl rfl (by omega) (by omega))⟩ ⟨_, zW6i (zRL rfl), ?_⟩
  refine And.intro ⟨(zRb rfl), (zRb rfl)⟩ (zbf rfl ?_)
  refine And.intro (zDX hD 0 rfl) (zrdR (v := some (k + 4)) (zDR hD 3 rfl) ?_)
  refine And.intro ⟨(by show 40 ≤ _; omega), (zDP hD 4 rfl rfl (by omega) (by omega))⟩ ⟨_, zW6i (zRL rfl), ?_⟩
  refine And.intro ⟨(zRb rfl), (zRb rfl)⟩ (zbt rfl ?_)
  refine And.intro ⟨(by omega), (zRb rfl)⟩ ⟨fun h26 => ?_, fun h26 => ?_⟩
  · refine And.intro ⟨(by omega), (zRb rfl)⟩ ⟨fun h41 => ?_, fun h41 => ?_⟩
    · refine And.intro (zDX hD 0 rfl) (zrdR (v := some (k + 5)) (zDR hD 4 rfl) ?_)
      refine And.intro ⟨(by show 40 ≤ _; omega), (zDP hD 5 rfl rfl (by omega) (by omega))⟩ ⟨_, (zWi (zRb rfl)), ?_⟩
      refine And.intro (zDX hD 0 rfl) (zrdR (v := some (k + 5)) (zDR hD 4 rfl) ?_)
      refine And.intro ⟨(by show 40 ≤ _; omega), (zDP hD 5 rfl rfl (by omega) (by omega))⟩ ⟨_, (zWi (zRb rfl)), ?_⟩
      refine And.intro (zDX hD 0 rfl) (zrdR (v := some (k + 2)) (zDR hD 1 rfl) ?_)
      refine And.intro ⟨(by show 40 ≤ _; omega), (zDP hD 2 rfl rfl (by omega) (by omega))⟩ ⟨_, (zWi (by omega)), ?_⟩
      refine And.intro (zDX hD 0 rfl) (zrdR (v := some (k + 8)) (zDR hD 7 rfl) ?_)
      refine And.intro ⟨(by show 40 ≤ _; omega), (zDP hD 8 rfl rfl (by omega) (by omega))⟩ ⟨_, (zWi (zRb rfl)), ?_⟩
      refine hQ _ _ (by clear hQ; grind [xu]) (by clear hQ; grind [xu]) (by clear hQ; grind [xu]) ?_ (fun c j h0 h1 h2 => (zxcj (by omega) (zxcj (by omega) (zxcj (by omega) (zxcj (by omega) rfl))))) (fun c j h0 => (zxcj (by omega) (zxcj (by omega) (zxcj (by omega) (zxcj (by omega) (zxcj (by omega) rfl))))))
      · intro w hw
        have qw : w = 0 ∨ w = 1 ∨ w = 2 ∨ w = 3 ∨ w = 4 := (by omega)
        unfold tN1
        rcases qw with rfl | rfl | rfl | rfl | rfl
        · first
          | (rw [if_neg (by omega), if_pos ⟨by omega, rfl⟩]
             (repeat first | exact zxe' (by omega) | refine zxs (by omega) ?_))
          | (rw [if_neg (by omega), if_neg (by omega)]
             (repeat first | exact zxe' (by omega) | refine zxs (by omega) ?_))
        · rw [if_neg (by omega), if_neg (by omega)]
          (repeat first | exact zxe' (by omega) | refine zxs (by omega) ?_)
        · first
          | (rw [if_pos ⟨by omega, rfl⟩]
             (repeat first | exact zxe' (by omega) | refine zxs (by omega) ?_))
          | (rw [if_neg (by omega), if_neg (by omega)]
             (repeat first | exact zxe' (by omega) | refine zxs (by omega) ?_))
        · rw [if_neg (by omega), if_neg (by omega)]
          (repeat first | exact zxe' (by omega) | refine zxs (by omega) ?_)
        · rw [if_neg (by omega), if_neg (by omega)]
          (repeat first | exact zxe' (by omega) | refine zxs (by omega) ?_)
    · refine And.intro (zDX hD 0 rfl) (zrdR (v := some (k + 4)) (zDR hD 3 rfl) ?_)
      refine And.intro ⟨(by show 40 ≤ _; omega), (zDP hD 4 rfl rfl (by omega) (by omega))⟩ ⟨_, zW6i (zRL rfl), ?_⟩
      refine And.intro (zDX hD 0 rfl) (zrdR (v := some (k + 5)) (zDR hD 4 rfl) ?_)
      refine And.intro ⟨(by show 40 ≤ _; omega), (zDP hD 5 rfl rfl (by omega) (by omega))⟩ ⟨_, (zWi (zRb rfl)), ?_⟩
      refine And.intro (zDX hD 0 rfl) (zrdR (v := some (k + 5)) (zDR hD 4 rfl) ?_)
      refine And.intro ⟨(by show 40 ≤ _; omega), (zDP hD 5 rfl rfl (by omega) (by omega))⟩ ⟨_, (zWi (zRb rfl)), ?_⟩
      refine And.intro (zDX hD 0 rfl) (zrdR (v := some (k + 2)) (zDR hD 1 rfl) ?_)
      refine And.intro ⟨(by show 40 ≤ _; omega), (zDP hD 2 rfl rfl (by omega) (by omega))⟩ ⟨_, (zWi (by omega)), ?_⟩
      refine And.intro (zDX hD 0 rfl) (zrdR (v := some (k + 8)) (zDR hD 7 rfl) ?_)
      refine And.intro ⟨(by show 40 ≤ _; omega), (zDP hD 8 rfl rfl (by omega) (by omega))⟩ ⟨_, (zWi (zRb rfl)), ?_⟩
      refine hQ _ _ (by clear hQ; grind [xu]) (by clear hQ; grind [xu]) (by clear hQ; grind [xu]) ?_ (fun c j h0 h1 h2 => (zxcj (by omega) (zxcj (by omega) (zxcj (by omega) (zxcj (by omega) rfl))))) (fun c j h0 => (zxcj (by omega) (zxcj (by omega) (zxcj (by omega) (zxcj (by omega) (zxcj (by omega) (zxcj (by omega) rfl)))))))
      · intro w hw
        have qw : w = 0 ∨ w = 1 ∨ w = 2 ∨ w = 3 ∨ w = 4 := (by omega)
        unfold tN1
        rcases qw with rfl | rfl | rfl | rfl | rfl
        · first
          | (rw [if_neg (by omega), if_pos ⟨by omega, rfl⟩]
             (repeat first | exact zxe' (by omega) | refine zxs (by omega) ?_))
          | (rw [if_neg (by omega), if_neg (by omega)]
             (repeat first | exact zxe' (by omega) | refine zxs (by omega) ?_))
        · rw [if_neg (by omega), if_neg (by omega)]
          (repeat first | exact zxe' (by omega) | refine zxs (by omega) ?_)
        · first
          | (rw [if_pos ⟨by omega, rfl⟩]
             (repeat first | exact zxe' (by omega) | refine zxs (by omega) ?_))
          | (rw [if_neg (by omega), if_neg (by omega)]
             (repeat first | exact zxe' (by omega) | refine zxs (by omega) ?_))
        · rw [if_neg (by omega), if_neg (by omega)]
          (repeat first | exact zxe' (by omega) | refine zxs (by omega) ?_)
        · rw [if_neg (by omega), if_neg (by omega)]
          (repeat first | exact zxe' (by omega) | refine zxs (by omega) ?_)
  · refine And.intro (zDX hD 0 rfl) (zrdR (v := some (k + 4)) (zDR hD 3 rfl) ?_)
    refine And.intro ⟨(by show 40 ≤ _; omega), (zDP hD 4 rfl rfl (by omega) (by omega))⟩ ⟨_, zW6i (zRL rfl), ?_⟩
    refine And.intro ⟨(by omega), (zRb rfl)⟩ ⟨fun h41 => ?_, (fun h41 => False.elim (by omega))⟩
    refine And.intro (zDX hD 0 rfl) (zrdR (v := some (k + 5)) (zDR hD 4 rfl) ?_)
    refine And.intro ⟨(by show 40 ≤ _; omega), (zDP hD 5 rfl rfl (by omega) (by omega))⟩ ⟨_, (zWi (zRb rfl)), ?_⟩
    refine And.intro (zDX hD 0 rfl) (zrdR (v := some (k + 5)) (zDR hD 4 rfl) ?_)
    refine And.intro ⟨(by show 40 ≤ _; omega), (zDP hD 5 rfl rfl (by omega) (by omega))⟩ ⟨_, (zWi (zRb rfl)), ?_⟩
    refine And.intro (zDX hD 0 rfl) (zrdR (v := some (k + 2)) (zDR hD 1 rfl) ?_)
    refine And.intro ⟨(by show 40 ≤ _; omega), (zDP hD 2 rfl rfl (by omega) (by omega))⟩ ⟨_, (zWi (by omega)), ?_⟩
    refine And.intro (zDX hD 0 rfl) (zrdR (v := some (k + 8)) (zDR hD 7 rfl) ?_)
    refine And.intro ⟨(by show 40 ≤ _; omega), (zDP hD 8 rfl rfl (by omega) (by omega))⟩ ⟨_, (zWi (zRb rfl)), ?_⟩
    refine hQ _ _ (by clear hQ; grind [xu]) (by clear hQ; grind [xu]) (by clear hQ; grind [xu]) ?_ (fun c j h0 h1 h2 => (zxcj (by omega) (zxcj (by omega) (zxcj (by omega) (zxcj (by omega) rfl))))) (fun c j h0 => (zxcj (by omega) (zxcj (by omega) (zxcj (by omega) (zxcj (by omega) (zxcj (by omega) (zxcj (by omega) rfl)))))))
    · intro w hw
      have qw : w = 0 ∨ w = 1 ∨ w = 2 ∨ w = 3 ∨ w = 4 := (by omega)
      unfold tN1
      rcases qw with rfl | rfl | rfl | rfl | rfl
      · first
        | (rw [if_neg (by omega), if_pos ⟨by omega, rfl⟩]
           (repeat first | exact zxe' (by omega) | refine zxs (by omega) ?_))
        | (rw [if_neg (by omega), if_neg (by omega)]
           (repeat first | exact zxe' (by omega) | refine zxs (by omega) ?_))
      · rw [if_neg (by omega), if_neg (by omega)]
        (repeat first | exact zxe' (by omega) | refine zxs (by omega) ?_)
      · first
        | (rw [if_pos ⟨by omega, rfl⟩]
           (repeat first | exact zxe' (by omega) | refine zxs (by omega) ?_))
        | (rw [if_neg (by omega), if_neg (by omega)]
           (repeat first | exact zxe' (by omega) | refine zxs (by omega) ?_))
      · rw [if_neg (by omega), if_neg (by omega)]
        (repeat first | exact zxe' (by omega) | refine zxs (by omega) ?_)
      · rw [if_neg (by omega), if_neg (by omega)]
        (repeat first | exact zxe' (by omega) | refine zxs (by omega) ?_))
