/-! zv -/
def T_S_atF : ZT := fun args I L R S Q => ∃ (k : Nat) (n : Nat) (e : Nat → Int) (d : Int) (f : Int), args = [zvr k, zvi d] ∧ (zSh S) ∧ (zRs R) ∧ (zDy zT8 zF8 k R S) ∧ (k = 130 ∨ k = 134) ∧ (zEt k n e I) ∧ (I k 3 = f) ∧ (0 ≤ f ∧ f ≤ 1000) ∧ (r32 d) ∧ Q none I L R S
theorem sn_S_atF : ZSnd 5 8 11 T_S_atF := ZSnd.of (zT8_11 4) (by
  rintro args I L R S Q hz ⟨k, n, e, d, f, rfl, hS, hR, hD, hk, hE, h3, hf, rd, hQ⟩
  have hk130 : 130 ≤ k := by omega
  have hk134 : k ≤ 134 := by omega
  obtain ⟨hE1, hE2, hE3⟩ := id hE
  have hn4 := hE2.1
  refine And.intro rfl ?_
  refine And.intro (zDX hD 0 rfl) (zrd (v := f) h3 ?_)
  refine And.intro ⟨(by omega), (zRb rfl)⟩ ⟨fun h5 => ?_, (fun h5 => False.elim (by omega))⟩
  refine Exists.intro _ (And.intro (zinl_ok (zT8_6 3)) (And.intro rfl ?_))
  refine And.intro ⟨(zRb rfl), (zRb rfl)⟩ (zbt rfl ?_)
  refine And.intro (Or.inl rfl) ?_
  refine And.intro (zRb rfl) (zbt rfl ?_)
  refine Exists.intro _ (And.intro (zinl_ok (zT8_9 3)) (And.intro rfl ?_))
  refine And.intro ⟨(zRb rfl), (zRb rfl)⟩ (zbt rfl ?_)
  refine And.intro (Or.inl rfl) ?_
  refine And.intro (zRb rfl) (zbf rfl ?_)
  refine And.intro ⟨(zRb rfl), (zRb rfl)⟩ (zbt rfl ?_)
  refine And.intro ⟨(by omega), (zRb rfl)⟩ ⟨fun h96 => ?_, fun h96 => ?_⟩
  · refine And.intro (zDX hD 0 rfl) (fun v136 e136 r136 => ?_)
    refine And.intro (zDX hD 0 rfl) (Exists.intro _ (And.intro (zinl_ok (zT8_2 3)) (And.intro rfl ?_)))
    refine And.intro (zDX hD 0 rfl) (zrd (v := f) h3 ?_)
    refine And.intro ⟨(by omega), (zRb rfl)⟩ ⟨fun h5_139 => ?_, (fun h5_139 => False.elim (by omega))⟩
    refine hQ 
  · refine And.intro ⟨(zRb rfl), (zRb rfl)⟩ (zbf rfl ?_)
    refine And.intro ⟨(zRb rfl), (zRb rfl)⟩ (zbf rfl ?_)
    refine And.intro ⟨(zRb rfl), (zRb rfl)⟩ (zbf rfl ?_)
    refine And.intro ⟨(zRb rfl), (zRb rfl)⟩ (zbt rfl ?_)
    refine And.intro (zDX hD 0 rfl) (fun v136 e136 r136 => ?_)
    refine And.intro (zDX hD 0 rfl) (Exists.intro _ (And.intro (zinl_ok (zT8_2 3)) (And.intro rfl ?_)))
    refine And.intro (zDX hD 0 rfl) (zrd (v := f) h3 ?_)
    refine And.intro ⟨(by omega), (zRb rfl)⟩ ⟨fun h5_139 => ?_, (fun h5_139 => False.elim (by omega))⟩
    refine hQ )
def T_S_prF : ZT := fun args I L R S Q => ∃ (k : Nat) (n : Nat) (e : Nat → Int) (d : Int) (f : Int), args = [zvr k, zvi d] ∧ (zSh S) ∧ (zRs R) ∧ (zDy zT8 zF8 k R S) ∧ (k = 130 ∨ k = 134) ∧ (zEt k n e I) ∧ (I k 3 = f) ∧ (0 ≤ f ∧ f ≤ 1000) ∧ (r32 d) ∧ Q none I L R S
theorem sn_S_prF : ZSnd 6 8 18 T_S_prF := ZSnd.loops (zT8_18 5) (by
  rintro args I L R S Q hz ⟨k, n, e, d, f, rfl, hS, hR, hD, hk, hE, h3, hf, rd, hQ⟩
  have hk130 : 130 ≤ k := by omega
  have hk134 : k ≤ 134 := by omega
  obtain ⟨hE1, hE2, hE3⟩ := id hE
  have hn4 := hE2.1
  refine ⟨[7], fun nM tM lsM stM I1 L1 R1 S1 => match tM with
      | 7 => ∃ (m : Nat), nM = ((401 - m), 0, 0) ∧ lsM = [some (zvr (k)), some (zvi (d)), some (zvi (m))] ∧ stM = [] ∧ I1 = I ∧ L1 = L ∧ R1 = R ∧ S1 = S ∧ (m ≤ 400)
      | _ => False, rfl, ?_, ⟨?_, True.intro⟩⟩
  · refine And.intro (zDX hD 0 rfl) ⟨_, sn_S_atF.up (by decide), ?_⟩
    refine ⟨_, _, _, (d : Int), (f : Int), rfl, hS, hR, hD, (by first | exact hk | (clear hQ; grind [xu])), (by first | exact (zEt_fr hE (fun c j h => rfl)) | (clear hQ; grind [xu])), h3, (by omega), (by omega), ?_⟩
    refine ⟨((401 - (0 : Nat)), 0, 0), [some (zvr (k)), some (zvi (d)), some (zvi ((0 : Nat)))], ⟨rfl, rfl, rfl, rfl⟩, 0, rfl, rfl, rfl, rfl, rfl, rfl, rfl, (by omega)⟩
  · rintro nM lsM stM I1 L1 R1 S1 hz1 ⟨m, rfl, rfl, rfl, rfl, rfl, rfl, rfl, hm⟩
    refine And.intro ⟨(by omega), (zRb rfl)⟩ ⟨fun h11 => ?_, fun h11 => ?_⟩
    · refine hQ 
    · refine And.intro (zDX hD 0 rfl) (Exists.intro _ (And.intro (zinl_ok (zT8_8 4)) (And.intro rfl ?_)))
      refine And.intro (zDX hD 0 rfl) (zrd (v := f) h3 ?_)
      refine And.intro ⟨(by omega), (zRb rfl)⟩ ⟨fun h5_17 => ?_, (fun h5_17 => False.elim (by omega))⟩
      refine And.intro (Or.inl rfl) ?_
      refine And.intro (zRb rfl) (zbf rfl ?_)
      refine And.intro (zDX hD 0 rfl) (Exists.intro _ (And.intro (zinl_ok (zT8_8 4)) (And.intro rfl ?_)))
      refine And.intro (zDX hD 0 rfl) (zrd (v := f) h3 ?_)
      refine And.intro ⟨(by omega), (zRb rfl)⟩ ⟨fun h5_26 => ?_, (fun h5_26 => False.elim (by omega))⟩
      refine And.intro (Or.inl rfl) ?_
      refine And.intro (zRb rfl) (zbf rfl ?_)
      refine And.intro (zDX hD 0 rfl) (Exists.intro _ (And.intro (zinl_ok (zT8_8 4)) (And.intro rfl ?_)))
      refine And.intro (zDX hD 0 rfl) (zrd (v := f) h3 ?_)
      refine And.intro ⟨(by omega), (zRb rfl)⟩ ⟨fun h5_35 => ?_, (fun h5_35 => False.elim (by omega))⟩
      refine And.intro (Or.inl rfl) ?_
      refine And.intro (zRb rfl) (zbt rfl ?_)
      refine hQ )
def T_S_smF : ZT := fun args I L R S Q => ∃ (k : Nat) (n : Nat) (e : Nat → Int) (d : Int) (f : Int), args = [zvr k, zvi d] ∧ (zSh S) ∧ (zRs R) ∧ (zDy zT8 zF8 k R S) ∧ (k = 130 ∨ k = 134) ∧ (zEt k n e I) ∧ (I k 3 = f) ∧ (0 ≤ f ∧ f ≤ 1000) ∧ (r32 d) ∧ Q none I L R S
theorem sn_S_smF : ZSnd 7 8 21 T_S_smF := ZSnd.loops (zT8_21 6) (by
  rintro args I L R S Q hz ⟨k, n, e, d, f, rfl, hS, hR, hD, hk, hE, h3, hf, rd, hQ⟩
  have hk130 : 130 ≤ k := by omega
  have hk134 : k ≤ 134 := by omega
  obtain ⟨hE1, hE2, hE3⟩ := id hE
  have hn4 := hE2.1
  refine ⟨[7], fun nM tM lsM stM I1 L1 R1 S1 => match tM with
      | 7 => ∃ (m : Nat), nM = ((401 - m), 0, 0) ∧ lsM = [some (zvr (k)), some (zvi (d)), some (zvi (m))] ∧ stM = [] ∧ I1 = I ∧ L1 = L ∧ R1 = R ∧ S1 = S ∧ (m ≤ 400)
      | _ => False, rfl, ?_, ⟨?_, True.intro⟩⟩
  · refine And.intro (zDX hD 0 rfl) ⟨_, sn_S_prF.up (by decide), ?_⟩
    refine ⟨_, _, _, (d : Int), (f : Int), rfl, hS, hR, hD, (by first | exact hk | (clear hQ; grind [xu])), (by first | exact (zEt_fr hE (fun c j h => rfl)) | (clear hQ; grind [xu])), h3, (by omega), (by omega), ?_⟩
    refine ⟨((401 - (0 : Nat)), 0, 0), [some (zvr (k)), some (zvi (d)), some (zvi ((0 : Nat)))], ⟨rfl, rfl, rfl, rfl⟩, 0, rfl, rfl, rfl, rfl, rfl, rfl, rfl, (by omega)⟩
  · rintro nM lsM stM I1 L1 R1 S1 hz1 ⟨m, rfl, rfl, rfl, rfl, rfl, rfl, rfl, hm⟩
    refine And.intro ⟨(by omega), (zRb rfl)⟩ ⟨fun h11 => ?_, fun h11 => ?_⟩
    · refine hQ 
    · refine And.intro (zDX hD 0 rfl) (Exists.intro _ (And.intro (zinl_ok (zT8_8 5)) (And.intro rfl ?_)))
      refine And.intro (zDX hD 0 rfl) (zrd (v := f) h3 ?_)
      refine And.intro ⟨(by omega), (zRb rfl)⟩ ⟨fun h5_17 => ?_, (fun h5_17 => False.elim (by omega))⟩
      refine And.intro (Or.inl rfl) ?_
      refine And.intro (zRb rfl) (zbf rfl ?_)
      refine And.intro (zDX hD 0 rfl) (Exists.intro _ (And.intro (zinl_ok (zT8_8 5)) (And.intro rfl ?_)))
      refine And.intro (zDX hD 0 rfl) (zrd (v := f) h3 ?_)
      refine And.intro ⟨(by omega), (zRb rfl)⟩ ⟨fun h5_26 => ?_, (fun h5_26 => False.elim (by omega))⟩
      refine And.intro (Or.inl rfl) ?_
      refine And.intro (zRb rfl) (zbt rfl ?_)
      refine hQ )
def T_S_exF : ZT := fun args I L R S Q => ∃ (k : Nat) (n : Nat) (e : Nat → Int) (d : Int) (f : Int), args = [zvr k, zvi d] ∧ (zSh S) ∧ (zRs R) ∧ (zDy zT8 zF8 k R S) ∧ (k = 130 ∨ k = 134) ∧ (zEt k n e I) ∧ (I k 3 = f) ∧ (0 ≤ f ∧ f ≤ 1000) ∧ (r32 d) ∧ Q none I L R S
theorem sn_S_exF : ZSnd 8 8 15 T_S_exF := ZSnd.of (zT8_15 7) (by
  rintro args I L R S Q hz ⟨k, n, e, d, f, rfl, hS, hR, hD, hk, hE, h3, hf, rd, hQ⟩
  have hk130 : 130 ≤ k := by omega
  have hk134 : k ≤ 134 := by omega
  obtain ⟨hE1, hE2, hE3⟩ := id hE
  have hn4 := hE2.1
  refine And.intro rfl ?_
  refine And.intro (zDX hD 0 rfl) ⟨_, sn_S_smF.up (by decide), ?_⟩
  refine ⟨_, _, _, (d : Int), (f : Int), rfl, hS, hR, hD, (by first | exact hk | (clear hQ; grind [xu])), (by first | exact (zEt_fr hE (fun c j h => rfl)) | (clear hQ; grind [xu])), h3, (by omega), (by omega), ?_⟩
  refine And.intro (zDX hD 0 rfl) (Exists.intro _ (And.intro (zinl_ok (zT8_8 6)) (And.intro rfl ?_)))
  refine And.intro (zDX hD 0 rfl) (zrd (v := f) h3 ?_)
  refine And.intro ⟨(by omega), (zRb rfl)⟩ ⟨fun h5_8 => ?_, (fun h5_8 => False.elim (by omega))⟩
  refine And.intro (Or.inl rfl) ?_
  refine And.intro (zRb rfl) (zbf rfl ?_)
  refine And.intro (zDX hD 0 rfl) (Exists.intro _ (And.intro (zinl_ok (zT8_8 6)) (And.intro rfl ?_)))
  refine And.intro (zDX hD 0 rfl) (zrd (v := f) h3 ?_)
  refine And.intro ⟨(by omega), (zRb rfl)⟩ ⟨fun h5_17 => ?_, (fun h5_17 => False.elim (by omega))⟩
  refine And.intro (Or.inl rfl) ?_
  refine And.intro (zRb rfl) (zbt rfl ?_)
  refine hQ )
