/-! ob -/
def T_O_is : ZT := fun args I L R S Q => ∃ (k : Nat) (O : OoS) (j : Int) (j_ : Nat), args = [zvr k, zvi j] ∧ (zSh S) ∧ (zRs R) ∧ (zDy zT2 zF2 k R S) ∧ (zOB k O I L) ∧ (oGd O) ∧ (j = j_ ∧ j_ < ocn O) ∧ Q (some (zvi (1))) I L R S
theorem sn_O_is : ZSnd 1 2 14 T_O_is := ZSnd.of (zT2_14 0) (by
  rintro args I L R S Q hz ⟨k, O, j, j_, rfl, hS, hR, hD, hO, hG, hj, hQ⟩
  obtain ⟨o1, o2, o3, o4⟩ := id hO
  obtain ⟨g1, g2, g3, g4, g5⟩ := id hG
  have hk40 := hD.1
  refine And.intro rfl ?_
  refine And.intro (by omega) ⟨(fun h1 => False.elim (by omega)), fun h1 => ?_⟩
  refine And.intro (zDX hD 0 rfl) (zrd (v := (ocn O)) o1 ?_)
  refine And.intro ⟨(by omega), (by omega)⟩ ⟨(fun h9 => False.elim (by omega)), fun h9 => ?_⟩
  refine And.intro (Or.inr rfl) ?_
  refine hQ )
def T_O_kind : ZT := fun args I L R S Q => ∃ (k : Nat) (O : OoS) (j : Int) (j_ : Nat), args = [zvr k, zvi j] ∧ (zSh S) ∧ (zRs R) ∧ (zDy zT2 zF2 k R S) ∧ (zOB k O I L) ∧ (oGd O) ∧ (j = j_ ∧ j_ < ocn O) ∧ ∀ (v : Int), (v = okd O j_) → (0 ≤ v ∧ v ≤ 9) → Q (some (zvi (v))) I L R S
theorem sn_O_kind : ZSnd 2 2 16 T_O_kind := ZSnd.of (zT2_16 1) (by
  rintro args I L R S Q hz ⟨k, O, j, j_, rfl, hS, hR, hD, hO, hG, hj, hQ⟩
  obtain ⟨o1, o2, o3, o4⟩ := id hO
  obtain ⟨g1, g2, g3, g4, g5⟩ := id hG
  have hk40 := hD.1
  refine And.intro rfl ?_
  refine And.intro (zDX hD 0 rfl) ⟨_, sn_O_is.up (by decide), ?_⟩
  refine ⟨_, _, (j : Int), (j).toNat, rfl, hS, hR, hD, (by first | exact (zOB_fr hO (fun c j h => rfl) (fun c j h => rfl)) | (clear hQ; grind [xu])), (by first | exact hG | (clear hQ; grind [xu])), (by omega), ?_⟩
  refine And.intro (zRb rfl) (zbf rfl ?_)
  refine And.intro (zDX hD 0 rfl) (zrdR (v := some (k + 1)) (zDR hD 0 rfl) ?_)
  refine And.intro (zDP hD 1 rfl rfl (by omega) (by omega)) (fun v13 e13 r13 => ?_)
  have f13 : v13 = okd O j_ := (e13.trans ((congrArg (I (k + 1)) (by omega)).trans (o2 j_ (by omega)).1))
  refine hQ _ (by omega) (by have w := (g2 j_ (by omega)).1; omega))
def T_O_par : ZT := fun args I L R S Q => ∃ (k : Nat) (O : OoS) (j : Int) (j_ : Nat), args = [zvr k, zvi j] ∧ (zSh S) ∧ (zRs R) ∧ (zDy zT2 zF2 k R S) ∧ (zOB k O I L) ∧ (oGd O) ∧ (j = j_ ∧ j_ < ocn O) ∧ ∀ (v : Int), (v = opa O j_) → (-1 ≤ v ∧ v + 1 ≤ j_) → Q (some (zvi (v))) I L R S
theorem sn_O_par : ZSnd 2 2 20 T_O_par := ZSnd.of (zT2_20 1) (by
  rintro args I L R S Q hz ⟨k, O, j, j_, rfl, hS, hR, hD, hO, hG, hj, hQ⟩
  obtain ⟨o1, o2, o3, o4⟩ := id hO
  obtain ⟨g1, g2, g3, g4, g5⟩ := id hG
  have hk40 := hD.1
  refine And.intro rfl ?_
  refine And.intro (zDX hD 0 rfl) ⟨_, sn_O_is.up (by decide), ?_⟩
  refine ⟨_, _, (j : Int), (j).toNat, rfl, hS, hR, hD, (by first | exact (zOB_fr hO (fun c j h => rfl) (fun c j h => rfl)) | (clear hQ; grind [xu])), (by first | exact hG | (clear hQ; grind [xu])), (by omega), ?_⟩
  refine And.intro (zRb rfl) (zbf rfl ?_)
  refine And.intro (zDX hD 0 rfl) (zrdR (v := some (k + 2)) (zDR hD 1 rfl) ?_)
  refine And.intro (zDP hD 2 rfl rfl (by omega) (by omega)) (fun v13 e13 r13 => ?_)
  have f13 : v13 = opa O j_ := (e13.trans ((congrArg (I (k + 2)) (by omega)).trans (o2 j_ (by omega)).2))
  refine hQ _ (by omega) (by have w := (g2 j_ (by omega)).2.1; omega))
def T_O_num : ZT := fun args I L R S Q => ∃ (k : Nat) (O : OoS) (j : Int) (j_ : Nat) (w : Int) (w_ : Nat), args = [zvr k, zvi j, zvi w] ∧ (zSh S) ∧ (zRs R) ∧ (zDy zT2 zF2 k R S) ∧ (zOB k O I L) ∧ (oGd O) ∧ (j = j_ ∧ j_ < ocn O) ∧ (w = w_ ∧ w_ < 5) ∧ ∀ (v : Int), (v = onm O j_ w_) → (-1000000000 ≤ v ∧ v ≤ 1000000000) → Q (some (zvl (v))) I L R S
theorem sn_O_num : ZSnd 2 2 18 T_O_num := ZSnd.of (zT2_18 1) (by
  rintro args I L R S Q hz ⟨k, O, j, j_, w, w_, rfl, hS, hR, hD, hO, hG, hj, hw, hQ⟩
  obtain ⟨o1, o2, o3, o4⟩ := id hO
  obtain ⟨g1, g2, g3, g4, g5⟩ := id hG
  have hk40 := hD.1
  refine And.intro rfl ?_
  refine And.intro (by omega) ⟨(fun h1 => False.elim (by omega)), fun h1 => ?_⟩
  refine And.intro ⟨(by omega), (zRb rfl)⟩ ⟨(fun h6 => False.elim (by omega)), fun h6 => ?_⟩
  refine And.intro (zDX hD 0 rfl) ⟨_, sn_O_is.up (by decide), ?_⟩
  refine ⟨_, _, (j : Int), (j).toNat, rfl, hS, hR, hD, (by first | exact (zOB_fr hO (fun c j h => rfl) (fun c j h => rfl)) | (clear hQ; grind [xu])), (by first | exact hG | (clear hQ; grind [xu])), (by omega), ?_⟩
  refine And.intro (zRb rfl) (zbf rfl ?_)
  refine And.intro (zDX hD 0 rfl) (zrdR (v := some (k + 4)) (zDR hD 3 rfl) ?_)
  refine And.intro (zDP hD 4 rfl rfl (by omega) (by omega)) (fun v26 e26 r26 => ?_)
  have f26 : v26 = onm O j_ w_ := (e26.trans ((congrArg (L (k + 4)) (by omega)).trans (o3 j_ w_ (by omega) (by omega))))
  refine hQ _ (by omega) (by have w := g3 j_ w_ (by omega) (by omega); have w2 : -1000000000 ≤ onm O j_ w_ := w.1; have w3 : onm O j_ w_ ≤ 1000000000 := w.2; omega))
def T_O_plc : ZT := fun args I L R S Q => ∃ (k : Nat) (O : OoS) (j : Int) (j_ : Nat) (w : Int) (w_ : Nat), args = [zvr k, zvi j, zvi w] ∧ (zSh S) ∧ (zRs R) ∧ (zDy zT2 zF2 k R S) ∧ (zOB k O I L) ∧ (oGd O) ∧ (j = j_ ∧ j_ < ocn O) ∧ (w = w_ ∧ w_ < 5) ∧ ∀ (v : Int), (v = onm O j_ w_) → (-1000000000 ≤ v ∧ v ≤ 1000000000) → Q (some (zvi (v))) I L R S
theorem sn_O_plc : ZSnd 3 2 21 T_O_plc := ZSnd.of (zT2_21 2) (by
  rintro args I L R S Q hz ⟨k, O, j, j_, w, w_, rfl, hS, hR, hD, hO, hG, hj, hw, hQ⟩
  obtain ⟨o1, o2, o3, o4⟩ := id hO
  obtain ⟨g1, g2, g3, g4, g5⟩ := id hG
  have hk40 := hD.1
  refine And.intro rfl ?_
  refine And.intro (zDX hD 0 rfl) ⟨_, sn_O_num.up (by decide), ?_⟩
  refine ⟨k, O, (j : Int), j_, (w : Int), w_, rfl, hS, hR, hD, (by first | exact (zOB_fr hO (fun c j h => rfl) (fun c j h => rfl)) | (clear hQ; grind [xu])), (by first | exact hG | (clear hQ; grind [xu])), (by omega), (by omega), ?_⟩
  intro v3o p3hv p3bhv2
  refine ⟨_, (zWi (by omega)), ?_⟩
  refine hQ _ (by omega) (by omega))
def T_O_tl : ZT := fun args I L R S Q => ∃ (k : Nat) (O : OoS) (j : Int) (j_ : Nat) (w : Int) (w_ : Nat), args = [zvr k, zvi j, zvi w] ∧ (zSh S) ∧ (zRs R) ∧ (zDy zT2 zF2 k R S) ∧ (zOB k O I L) ∧ (oGd O) ∧ (j = j_ ∧ j_ < ocn O) ∧ (w = w_ ∧ w_ < 2) ∧ ∀ (v : Int), (v = otl O j_ w_) → (0 ≤ v ∧ v ≤ 4000) → Q (some (zvi (v))) I L R S
theorem sn_O_tl : ZSnd 2 2 26 T_O_tl := ZSnd.of (zT2_26 1) (by
  rintro args I L R S Q hz ⟨k, O, j, j_, w, w_, rfl, hS, hR, hD, hO, hG, hj, hw, hQ⟩
  obtain ⟨o1, o2, o3, o4⟩ := id hO
  obtain ⟨g1, g2, g3, g4, g5⟩ := id hG
  have hk40 := hD.1
  obtain ⟨l1, l2, l3, l4⟩ := o4 j_ w_ (by omega) (by omega)
  have l5 := (g4 j_ w_ (by omega) (by omega)).1
  refine And.intro rfl ?_
  refine And.intro (zDX hD 0 rfl) ⟨_, sn_O_is.up (by decide), ?_⟩
  refine ⟨_, _, (j : Int), (j).toNat, rfl, hS, hR, hD, (by first | exact (zOB_fr hO (fun c j h => rfl) (fun c j h => rfl)) | (clear hQ; grind [xu])), (by first | exact hG | (clear hQ; grind [xu])), (by omega), ?_⟩
  refine And.intro (zRb rfl) (zbf rfl ?_)
  refine And.intro (zDX hD 0 rfl) (zrdR (v := some (k + 6)) (zDR hD 5 rfl) ?_)
  refine And.intro (zDP hD 6 rfl rfl (by omega) (by omega)) (fun v17 e17 r17 => ?_)
  have f17 : v17 = otl O j_ w_ := (e17.trans ((congrArg (I (k + 6)) (by omega)).trans l1))
  refine hQ _ (by omega) (by omega))
def T_O_let : ZT := fun args I L R S Q => ∃ (k : Nat) (O : OoS) (j : Int) (j_ : Nat) (w : Int) (w_ : Nat) (i : Int) (i_ : Nat), args = [zvr k, zvi j, zvi w, zvi i] ∧ (zSh S) ∧ (zRs R) ∧ (zDy zT2 zF2 k R S) ∧ (zOB k O I L) ∧ (oGd O) ∧ (j = j_ ∧ j_ < ocn O) ∧ (w = w_ ∧ w_ < 2) ∧ (i = i_ ∧ i_ < otl O j_ w_) ∧ ∀ (v : Int), (v = otc O j_ w_ i_) → (0 ≤ v ∧ v ≤ 126) → Q (some (zvi (v))) I L R S
theorem sn_O_let : ZSnd 1 2 17 T_O_let := ZSnd.of (zT2_17 0) (by
  rintro args I L R S Q hz ⟨k, O, j, j_, w, w_, i, i_, rfl, hS, hR, hD, hO, hG, hj, hw, hi, hQ⟩
  obtain ⟨o1, o2, o3, o4⟩ := id hO
  obtain ⟨g1, g2, g3, g4, g5⟩ := id hG
  have hk40 := hD.1
  obtain ⟨l1, l2, l3, l4⟩ := o4 j_ w_ (by omega) (by omega)
  have l5 := (g4 j_ w_ (by omega) (by omega)).1
  have l6 := g5 j_ w_ i_ (by omega) (by omega) (by omega)
  refine And.intro rfl ?_
  refine And.intro (zDX hD 0 rfl) (zrdR (v := some (k + 7)) (zDR hD 6 rfl) ?_)
  refine And.intro (zDX hD 0 rfl) (zrdR (v := some (k + 5)) (zDR hD 4 rfl) ?_)
  refine And.intro (zDP hD 5 rfl rfl (by omega) (by omega)) (fun v13 e13 r13 => ?_)
  have f13 : v13 = I (k + 5) (2 * j_ + w_) := (e13.trans (congrArg (I (k + 5)) (by omega)))
  have f13b : 0 ≤ v13 ∧ v13 + otl O j_ w_ ≤ 4000 := (by omega)
  refine And.intro (zDP hD 7 rfl rfl (by omega) (by omega)) (fun v16 e16 r16 => ?_)
  have f16 : v16 = otc O j_ w_ i_ := (e16.trans ((congrArg (I (k + 7)) (by omega)).trans (l4 i_ (by omega))))
  have f16b : 0 ≤ v16 ∧ v16 ≤ 126 := (by omega)
  refine And.intro ⟨by omega, by omega⟩ ?_
  refine hQ _ (by omega) (by omega))
def T_O_of : ZT := fun args I L R S Q => ∃ (k : Nat) (O : OoS) (j : Int) (j_ : Nat) (w : Int) (w_ : Nat), args = [zvr k, zvi j, zvi w, zvr 29] ∧ (zSh S) ∧ (zRs R) ∧ (zDy zT2 zF2 k R S) ∧ (zOB k O I L) ∧ (oGd O) ∧ (j = j_ ∧ j_ < ocn O) ∧ (w = w_ ∧ w_ = 0) ∧ ∀ (v : Int), ((v = 1 ∧ oOf O j_) ∨ (v = 0 ∧ ¬ oOf O j_)) → (0 ≤ v ∧ v ≤ 1) → Q (some (zvi (v))) I L R S
theorem sn_O_of : ZSnd 3 2 25 T_O_of := ZSnd.of (zT2_25 2) (by
  rintro args I L R S Q hz ⟨k, O, j, j_, w, w_, rfl, hS, hR, hD, hO, hG, hj, hw, hQ⟩
  obtain ⟨o1, o2, o3, o4⟩ := id hO
  obtain ⟨g1, g2, g3, g4, g5⟩ := id hG
  have hk40 := hD.1
  refine And.intro rfl ?_
  refine And.intro (zDX hD 0 rfl) ⟨_, sn_O_tl.up (by decide), ?_⟩
  refine ⟨k, O, (j : Int), j_, (w : Int), w_, rfl, hS, hR, hD, (by first | exact (zOB_fr hO (fun c j h => rfl) (fun c j h => rfl)) | (clear hQ; grind [xu])), (by first | exact hG | (clear hQ; grind [xu])), (by omega), (by omega), ?_⟩
  intro v3o p3hv p3bhv2
  refine And.intro ⟨by decide, by decide⟩ ?_
  have c7 : ((tsb (29 - 10)).length : Int) = 2 := by decide
  refine And.intro ⟨(by omega), (zRb rfl)⟩ ⟨fun h10 => ?_, fun h10 => ?_⟩
  · refine And.intro ⟨by decide, by decide⟩ ?_
    have c26 : ((tsb (29 - 10)).length : Int) = 2 := by decide
    refine And.intro ⟨(zRb rfl), (zRb rfl)⟩ (zbf rfl ?_)
    refine And.intro (zRb rfl) (zbt rfl ?_)
    refine And.intro (Or.inl rfl) ?_
    refine hQ _ ?_ (by omega)
    · obtain rfl : w_ = 0 := (by omega)
      first
      | exact Or.inl ⟨rfl, (by omega), (by omega), (by omega)⟩
      | exact Or.inr ⟨rfl, fun q => by have q1 := q.1; have q2 := q.2; omega⟩
      | exact Or.inr ⟨rfl, fun q => by have q1 := q.1; have q2 := q.2.1; have q3 := q.2.2; omega⟩
  · refine And.intro ⟨by decide, by decide⟩ ?_
    have c26 : ((tsb (29 - 10)).length : Int) = 2 := by decide
    refine And.intro ⟨(zRb rfl), (zRb rfl)⟩ (zbf rfl ?_)
    refine And.intro (zRb rfl) (zbf rfl ?_)
    refine And.intro (zDX hD 0 rfl) ⟨_, sn_O_let.up (by decide), ?_⟩
    refine ⟨k, O, (j : Int), j_, (w : Int), w_, (0 : Int), 0, rfl, hS, hR, hD, (by first | exact (zOB_fr hO (fun c j h => rfl) (fun c j h => rfl)) | (clear hQ; grind [xu])), (by first | exact hG | (clear hQ; grind [xu])), (by omega), (by omega), (by omega), ?_⟩
    intro v42o p42hv p42bhv2
    refine And.intro ⟨⟨by decide, by decide⟩, by decide, by decide⟩ ?_
    have c48 : (((tsb (29 - 10)).getD (0 : Int).toNat 0 : Nat) : Int) = 111 := by decide
    refine And.intro ⟨(by omega), (by omega)⟩ ⟨fun h51 => ?_, fun h51 => ?_⟩
    · refine And.intro ⟨by decide, by decide⟩ ?_
      have c26b : ((tsb (29 - 10)).length : Int) = 2 := by decide
      refine And.intro ⟨(zRb rfl), (zRb rfl)⟩ (zbf rfl ?_)
      refine And.intro (zRb rfl) (zbt rfl ?_)
      refine And.intro (Or.inl rfl) ?_
      refine hQ _ ?_ (by omega)
      · obtain rfl : w_ = 0 := (by omega)
        first
        | exact Or.inl ⟨rfl, (by omega), (by omega), (by omega)⟩
        | exact Or.inr ⟨rfl, fun q => by have q1 := q.1; have q2 := q.2; omega⟩
        | exact Or.inr ⟨rfl, fun q => by have q1 := q.1; have q2 := q.2.1; have q3 := q.2.2; omega⟩
    · refine And.intro ⟨by decide, by decide⟩ ?_
      have c26b : ((tsb (29 - 10)).length : Int) = 2 := by decide
      refine And.intro ⟨(zRb rfl), (zRb rfl)⟩ (zbf rfl ?_)
      refine And.intro (zRb rfl) (zbf rfl ?_)
      refine And.intro (zDX hD 0 rfl) ⟨_, sn_O_let.up (by decide), ?_⟩
      refine ⟨k, O, (j : Int), j_, (w : Int), w_, ((0 + 1) : Int), 1, rfl, hS, hR, hD, (by first | exact (zOB_fr hO (fun c j h => rfl) (fun c j h => rfl)) | (clear hQ; grind [xu])), (by first | exact hG | (clear hQ; grind [xu])), (by omega), (by omega), (by omega), ?_⟩
      intro v42bo p42bbhv p42bbbhv2
      refine And.intro ⟨⟨by decide, by decide⟩, by decide, by decide⟩ ?_
      have c48b : (((tsb (29 - 10)).getD ((0 + 1) : Int).toNat 0 : Nat) : Int) = 102 := by decide
      refine And.intro ⟨(by omega), (by omega)⟩ ⟨fun h51b => ?_, fun h51b => ?_⟩
      · refine And.intro ⟨by decide, by decide⟩ ?_
        have c26bb : ((tsb (29 - 10)).length : Int) = 2 := by decide
        refine And.intro ⟨(zRb rfl), (zRb rfl)⟩ (zbt rfl ?_)
        refine And.intro (Or.inl rfl) ?_
        refine hQ _ ?_ (by omega)
        · obtain rfl : w_ = 0 := (by omega)
          first
          | exact Or.inl ⟨rfl, (by omega), (by omega), (by omega)⟩
          | exact Or.inr ⟨rfl, fun q => by have q1 := q.1; have q2 := q.2; omega⟩
          | exact Or.inr ⟨rfl, fun q => by have q1 := q.1; have q2 := q.2.1; have q3 := q.2.2; omega⟩
      · refine And.intro ⟨by decide, by decide⟩ ?_
        have c26bb : ((tsb (29 - 10)).length : Int) = 2 := by decide
        refine And.intro ⟨(zRb rfl), (zRb rfl)⟩ (zbt rfl ?_)
        refine And.intro (Or.inr rfl) ?_
        refine hQ _ ?_ (by omega)
        · obtain rfl : w_ = 0 := (by omega)
          first
          | exact Or.inl ⟨rfl, (by omega), (by omega), (by omega)⟩
          | exact Or.inr ⟨rfl, fun q => by have q1 := q.1; have q2 := q.2; omega⟩
          | exact Or.inr ⟨rfl, fun q => by have q1 := q.1; have q2 := q.2.1; have q3 := q.2.2; omega⟩)
def T_O_pl : ZT := fun args I L R S Q => ∃ (k : Nat) (O : OoS) (j : Int) (j_ : Nat) (w : Int) (w_ : Nat), args = [zvr k, zvi j, zvi w, zvr 30] ∧ (zSh S) ∧ (zRs R) ∧ (zDy zT2 zF2 k R S) ∧ (zOB k O I L) ∧ (oGd O) ∧ (j = j_ ∧ j_ < ocn O) ∧ (w = w_ ∧ w_ = 0) ∧ ∀ (v : Int), ((v = 1 ∧ oPl O j_) ∨ (v = 0 ∧ ¬ oPl O j_)) → (0 ≤ v ∧ v ≤ 1) → Q (some (zvi (v))) I L R S
theorem sn_O_pl : ZSnd 3 2 25 T_O_pl := ZSnd.of (zT2_25 2) (by
  rintro args I L R S Q hz ⟨k, O, j, j_, w, w_, rfl, hS, hR, hD, hO, hG, hj, hw, hQ⟩
  obtain ⟨o1, o2, o3, o4⟩ := id hO
  obtain ⟨g1, g2, g3, g4, g5⟩ := id hG
  have hk40 := hD.1
  refine And.intro rfl ?_
  refine And.intro (zDX hD 0 rfl) ⟨_, sn_O_tl.up (by decide), ?_⟩
  refine ⟨k, O, (j : Int), j_, (w : Int), w_, rfl, hS, hR, hD, (by first | exact (zOB_fr hO (fun c j h => rfl) (fun c j h => rfl)) | (clear hQ; grind [xu])), (by first | exact hG | (clear hQ; grind [xu])), (by omega), (by omega), ?_⟩
  intro v3o p3hv p3bhv2
  refine And.intro ⟨by decide, by decide⟩ ?_
  have c7 : ((tsb (30 - 10)).length : Int) = 1 := by decide
  refine And.intro ⟨(by omega), (zRb rfl)⟩ ⟨fun h10 => ?_, fun h10 => ?_⟩
  · refine And.intro ⟨by decide, by decide⟩ ?_
    have c26 : ((tsb (30 - 10)).length : Int) = 1 := by decide
    refine And.intro ⟨(zRb rfl), (zRb rfl)⟩ (zbf rfl ?_)
    refine And.intro (zRb rfl) (zbt rfl ?_)
    refine And.intro (Or.inl rfl) ?_
    refine hQ _ ?_ (by omega)
    · obtain rfl : w_ = 0 := (by omega)
      first
      | exact Or.inl ⟨rfl, (by omega), (by omega)⟩
      | exact Or.inr ⟨rfl, fun q => by have q1 := q.1; have q2 := q.2; omega⟩
      | exact Or.inr ⟨rfl, fun q => by have q1 := q.1; have q2 := q.2.1; have q3 := q.2.2; omega⟩
  · refine And.intro ⟨by decide, by decide⟩ ?_
    have c26 : ((tsb (30 - 10)).length : Int) = 1 := by decide
    refine And.intro ⟨(zRb rfl), (zRb rfl)⟩ (zbf rfl ?_)
    refine And.intro (zRb rfl) (zbf rfl ?_)
    refine And.intro (zDX hD 0 rfl) ⟨_, sn_O_let.up (by decide), ?_⟩
    refine ⟨k, O, (j : Int), j_, (w : Int), w_, (0 : Int), 0, rfl, hS, hR, hD, (by first | exact (zOB_fr hO (fun c j h => rfl) (fun c j h => rfl)) | (clear hQ; grind [xu])), (by first | exact hG | (clear hQ; grind [xu])), (by omega), (by omega), (by omega), ?_⟩
    intro v42o p42hv p42bhv2
    refine And.intro ⟨⟨by decide, by decide⟩, by decide, by decide⟩ ?_
    have c48 : (((tsb (30 - 10)).getD (0 : Int).toNat 0 : Nat) : Int) = 43 := by decide
    refine And.intro ⟨(by omega), (by omega)⟩ ⟨fun h51 => ?_, fun h51 => ?_⟩
    · refine And.intro ⟨by decide, by decide⟩ ?_
      have c26b : ((tsb (30 - 10)).length : Int) = 1 := by decide
      refine And.intro ⟨(zRb rfl), (zRb rfl)⟩ (zbt rfl ?_)
      refine And.intro (Or.inl rfl) ?_
      refine hQ _ ?_ (by omega)
      · obtain rfl : w_ = 0 := (by omega)
        first
        | exact Or.inl ⟨rfl, (by omega), (by omega)⟩
        | exact Or.inr ⟨rfl, fun q => by have q1 := q.1; have q2 := q.2; omega⟩
        | exact Or.inr ⟨rfl, fun q => by have q1 := q.1; have q2 := q.2.1; have q3 := q.2.2; omega⟩
    · refine And.intro ⟨by decide, by decide⟩ ?_
      have c26b : ((tsb (30 - 10)).length : Int) = 1 := by decide
      refine And.intro ⟨(zRb rfl), (zRb rfl)⟩ (zbt rfl ?_)
      refine And.intro (Or.inr rfl) ?_
      refine hQ _ ?_ (by omega)
      · obtain rfl : w_ = 0 := (by omega)
        first
        | exact Or.inl ⟨rfl, (by omega), (by omega)⟩
        | exact Or.inr ⟨rfl, fun q => by have q1 := q.1; have q2 := q.2; omega⟩
        | exact Or.inr ⟨rfl, fun q => by have q1 := q.1; have q2 := q.2.1; have q3 := q.2.2; omega⟩)
def T_O_same : ZT := fun args I L R S Q => ∃ (k : Nat) (O : OoS) (j : Int) (j_ : Nat) (w : Int) (w_ : Nat) (b : Int) (b_ : Nat) (u : Int) (u_ : Nat), args = [zvr k, zvi j, zvi w, zvi b, zvi u] ∧ (zSh S) ∧ (zRs R) ∧ (zDy zT2 zF2 k R S) ∧ (zOB k O I L) ∧ (oGd O) ∧ (j = j_ ∧ j_ < ocn O) ∧ (w = w_ ∧ w_ < 2) ∧ (b = b_ ∧ b_ < ocn O) ∧ (u = u_ ∧ u_ < 2) ∧ ∀ (v : Int), ((v = 1 ∧ oSm O j_ w_ b_ u_) ∨ (v = 0 ∧ ¬ oSm O j_ w_ b_ u_)) → (0 ≤ v ∧ v ≤ 1) → Q (some (zvi (v))) I L R S
theorem sn_O_same : ZSnd 3 2 22 T_O_same := ZSnd.loops (zT2_22 2) (by
  rintro args I L R S Q hz ⟨k, O, j, j_, w, w_, b, b_, u, u_, rfl, hS, hR, hD, hO, hG, hj, hw, hb, hu, hQ⟩
  obtain ⟨o1, o2, o3, o4⟩ := id hO
  obtain ⟨g1, g2, g3, g4, g5⟩ := id hG
  have hk40 := hD.1
  have l5 := (g4 j_ w_ (by omega) (by omega)).1
  have l6 := (g4 b_ u_ (by omega) (by omega)).1
  refine ⟨[26], fun nM tM lsM stM I1 L1 R1 S1 => match tM with
      | 26 => ∃ (i : Nat) (s : Int), nM = ((4001 - i), 0, 0) ∧ lsM = [some (zvr (k)), some (zvi (j_)), some (zvi (w_)), some (zvi (b_)), some (zvi (u_)), some (zvi (s)), some (zvi (i))] ∧ stM = [] ∧ I1 = I ∧ L1 = L ∧ R1 = R ∧ S1 = S ∧ (i ≤ otl O j_ w_) ∧ ((s = 1 ∧ otl O j_ w_ = otl O b_ u_ ∧ ∀ x, x < i → otc O j_ w_ x = otc O b_ u_ x) ∨ (s = 0 ∧ ¬ oSm O j_ w_ b_ u_)) ∧ (0 ≤ s ∧ s ≤ 1)
      | _ => False, rfl, ?_, ⟨?_, True.intro⟩⟩
  · refine And.intro (zDX hD 0 rfl) ⟨_, sn_O_tl.up (by decide), ?_⟩
    refine ⟨k, O, (j : Int), j_, (w : Int), w_, rfl, hS, hR, hD, (by first | exact (zOB_fr hO (fun c j h => rfl) (fun c j h => rfl)) | (clear hQ; grind [xu])), (by first | exact hG | (clear hQ; grind [xu])), (by omega), (by omega), ?_⟩
    intro v3o p3hv p3bhv2
    refine And.intro (zDX hD 0 rfl) ⟨_, sn_O_tl.up (by decide), ?_⟩
    refine ⟨k, O, (b : Int), b_, (u : Int), u_, rfl, hS, hR, hD, (by first | exact (zOB_fr hO (fun c j h => rfl) (fun c j h => rfl)) | (clear hQ; grind [xu])), (by first | exact hG | (clear hQ; grind [xu])), (by omega), (by omega), ?_⟩
    intro v10o p10hv p10bhv2
    refine And.intro ⟨(by omega), (by omega)⟩ ⟨fun h13 => ?_, fun h13 => ?_⟩
    · refine ⟨((4001 - (0 : Nat)), 0, 0), [some (zvr (k)), some (zvi (j_)), some (zvi (w_)), some (zvi (b_)), some (zvi (u_)), some (zvi ((0 : Int))), some (zvi ((0 : Nat)))], ⟨rfl, (congrArg (fun z => some (zvi z)) (by omega)), (congrArg (fun z => some (zvi z)) (by omega)), (congrArg (fun z => some (zvi z)) (by omega)), (congrArg (fun z => some (zvi z)) (by omega)), rfl, rfl, rfl⟩, 0, 0, rfl, rfl, rfl, rfl, rfl, rfl, rfl, (by omega), ?_, (by omega)⟩
      · first
        | exact Or.inl ⟨rfl, by omega, fun x h => absurd h (Nat.not_lt_zero x)⟩
        | exact Or.inr ⟨rfl, fun q => by have q1 := q.1; omega⟩
    · refine ⟨((4001 - (0 : Nat)), 0, 0), [some (zvr (k)), some (zvi (j_)), some (zvi (w_)), some (zvi (b_)), some (zvi (u_)), some (zvi ((1 : Int))), some (zvi ((0 : Nat)))], ⟨rfl, (congrArg (fun z => some (zvi z)) (by omega)), (congrArg (fun z => some (zvi z)) (by omega)), (congrArg (fun z => some (zvi z)) (by omega)), (congrArg (fun z => some (zvi z)) (by omega)), rfl, rfl, rfl⟩, 0, 1, rfl, rfl, rfl, rfl, rfl, rfl, rfl, (by omega), ?_, (by omega)⟩
      · first
        | exact Or.inl ⟨rfl, by omega, fun x h => absurd h (Nat.not_lt_zero x)⟩
        | exact Or.inr ⟨rfl, fun q => by have q1 := q.1; omega⟩
  · rintro nM lsM stM I1 L1 R1 S1 hz1 ⟨i, s, rfl, rfl, rfl, rfl, rfl, rfl, rfl, hi, hs, hs2⟩
    refine And.intro (zDX hD 0 rfl) ⟨_, sn_O_tl.up (by decide), ?_⟩
    refine ⟨k, O, (j_ : Int), j_, (w_ : Int), w_, rfl, hS, hR, hD, (by first | exact (zOB_fr hO (fun c j h => rfl) (fun c j h => rfl)) | (clear hQ; grind [xu])), (by first | exact hG | (clear hQ; grind [xu])), (by omega), (by omega), ?_⟩
    intro v31o p31hv p31bhv2
    refine And.intro ⟨(by omega), (by omega)⟩ ⟨fun h34 => ?_, fun h34 => ?_⟩
    · refine And.intro (by omega) ?_
      refine hQ _ ?_ (by omega)
      · rcases hs with q | q
        · first
          | (exfalso; omega)
          | exact Or.inl ⟨q.1, q.2.1, fun x hx => q.2.2 x (by omega)⟩
        · exact Or.inr q
    · refine And.intro (by omega) ⟨fun h39 => ?_, fun h39 => ?_⟩
      · refine And.intro (by omega) ?_
        refine hQ _ ?_ (by omega)
        · rcases hs with q | q
          · first
            | (exfalso; omega)
            | exact Or.inl ⟨q.1, q.2.1, fun x hx => q.2.2 x (by omega)⟩
          · exact Or.inr q
      · have t39 : otl O j_ w_ = otl O b_ u_ := (by rcases hs with q | q; exact q.2.1; omega)
        refine And.intro (zDX hD 0 rfl) ⟨_, sn_O_let.up (by decide), ?_⟩
        refine ⟨k, O, (j_ : Int), j_, (w_ : Int), w_, (i : Int), i, rfl, hS, hR, hD, (by first | exact (zOB_fr hO (fun c j h => rfl) (fun c j h => rfl)) | (clear hQ; grind [xu])), (by first | exact hG | (clear hQ; grind [xu])), (by omega), (by omega), (by omega), ?_⟩
        intro v47o p47hv p47bhv2
        refine And.intro (zDX hD 0 rfl) ⟨_, sn_O_let.up (by decide), ?_⟩
        refine ⟨k, O, (b_ : Int), b_, (u_ : Int), u_, (i : Int), i, rfl, hS, hR, hD, (by first | exact (zOB_fr hO (fun c j h => rfl) (fun c j h => rfl)) | (clear hQ; grind [xu])), (by first | exact hG | (clear hQ; grind [xu])), (by omega), (by omega), (by omega), ?_⟩
        intro v56o p56hv p56bhv2
        refine And.intro ⟨(by omega), (by omega)⟩ ⟨fun h59 => ?_, fun h59 => ?_⟩
        · refine ⟨((4001 - (i + 1)), 0, 0), zlt6 (by omega), [some (zvr (k)), some (zvi (j_)), some (zvi (w_)), some (zvi (b_)), some (zvi (u_)), some (zvi ((0 : Int))), some (zvi ((i + 1)))], ⟨rfl, rfl, rfl, rfl, rfl, rfl, rfl, rfl⟩, (i + 1), 0, rfl, rfl, rfl, rfl, rfl, rfl, rfl, (by omega), ?_, (by omega)⟩
          · rcases hs with q | q
            · first
              | (refine Or.inl ⟨rfl, q.2.1, fun x hx => ?_⟩
                 by_cases e : x = i
                 · rw [e]; omega
                 · exact q.2.2 x (by omega))
              | (refine Or.inr ⟨rfl, fun z => ?_⟩
                 have z2 := z.2 i (by omega)
                 omega)
            · exfalso; omega
        · refine ⟨((4001 - (i + 1)), 0, 0), zlt6 (by omega), [some (zvr (k)), some (zvi (j_)), some (zvi (w_)), some (zvi (b_)), some (zvi (u_)), some (zvi ((1 : Int))), some (zvi ((i + 1)))], ⟨rfl, rfl, rfl, rfl, rfl, rfl, rfl, rfl⟩, (i + 1), 1, rfl, rfl, rfl, rfl, rfl, rfl, rfl, (by omega), ?_, (by omega)⟩
          · rcases hs with q | q
            · first
              | (refine Or.inl ⟨rfl, q.2.1, fun x hx => ?_⟩
                 by_cases e : x = i
                 · rw [e]; omega
                 · exact q.2.2 x (by omega))
              | (refine Or.inr ⟨rfl, fun z => ?_⟩
                 have z2 := z.2 i (by omega)
                 omega)
            · exfalso; omega)
