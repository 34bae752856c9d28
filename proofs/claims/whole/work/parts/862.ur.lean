/-! ur -/
def T_G_obj : ZT := fun args I L R S Q => ∃ (m : Nat), args = [zvr 234, zvi 0] ∧ (zSh S) ∧ (zRs R) ∧ (I 234 28 = m) ∧ (m < 12) ∧ ∀ (I' : ZI) (L' : ZI), (I' 234 28 = m + 1) → (∀ j : Nat, j < 6 * m → L' 251 j = L 251 j) → (∀ c j : Nat, ¬ (c = 234 ∧ j = 0) → ¬ (c = 234 ∧ j = 28) → I' c j = I c j) → (∀ c j : Nat, ¬ c = 251 → L' c j = L c j) → Q (some (zvi (m))) I' L' R S
theorem sn_G_obj : ZSnd 2 12 32 T_G_obj := ZSnd.of (zT12_32 1) (by
  rintro args I L R S Q hz ⟨m, rfl, hS, hR, h28, hm, hQ⟩
  refine And.intro rfl ?_
  refine And.intro (zA_234 hS) ⟨_, (zWi (zRb rfl)), ?_⟩
  refine And.intro (zRb rfl) ?_
  refine And.intro (zA_234 hS) (Exists.intro _ (And.intro (zinl_ok (zT12_1 0)) (And.intro rfl ?_)))
  refine And.intro (zA_234 hS) (zrd (v := m) h28 ?_)
  refine And.intro ⟨(by omega), (zRb rfl)⟩ ⟨fun h6_8 => ?_, (fun h6_8 => False.elim (by omega))⟩
  refine And.intro ⟨(zRb rfl), (zRb rfl)⟩ (zbf rfl ?_)
  refine And.intro (zA_234 hS) (zrdR (v := some 251) (zR_234_29 hR) ?_)
  refine And.intro (zA_234 hS) (zrd (v := m) h28 ?_)
  refine And.intro (zRb rfl) (zbf rfl ?_)
  refine And.intro ⟨(zx0 rfl), (zP_251 hS (by omega) (by omega))⟩ ⟨_, zW6i (zRL rfl), ?_⟩
  refine And.intro ⟨(zRb rfl), (zRb rfl)⟩ (zbf rfl ?_)
  refine And.intro (zA_234 hS) (zrdR (v := some 251) (zR_234_29 hR) ?_)
  refine And.intro (zA_234 hS) (zrd (v := m) h28 ?_)
  refine And.intro (zRb rfl) (zbt rfl ?_)
  refine And.intro ⟨(zx0 rfl), (zP_251 hS (by omega) (by omega))⟩ ⟨_, zW6i (zRL rfl), ?_⟩
  refine And.intro ⟨(zRb rfl), (zRb rfl)⟩ (zbf rfl ?_)
  refine And.intro (zA_234 hS) (zrdR (v := some 251) (zR_234_29 hR) ?_)
  refine And.intro (zA_234 hS) (zrd (v := m) h28 ?_)
  refine And.intro (zRb rfl) (zbt rfl ?_)
  refine And.intro ⟨(zx0 rfl), (zP_251 hS (by omega) (by omega))⟩ ⟨_, zW6i (zRL rfl), ?_⟩
  refine And.intro ⟨(zRb rfl), (zRb rfl)⟩ (zbf rfl ?_)
  refine And.intro (zA_234 hS) (zrdR (v := some 251) (zR_234_29 hR) ?_)
  refine And.intro (zA_234 hS) (zrd (v := m) h28 ?_)
  refine And.intro (zRb rfl) (zbt rfl ?_)
  refine And.intro ⟨(zx0 rfl), (zP_251 hS (by omega) (by omega))⟩ ⟨_, zW6i (zRL rfl), ?_⟩
  refine And.intro ⟨(zRb rfl), (zRb rfl)⟩ (zbf rfl ?_)
  refine And.intro (zA_234 hS) (zrdR (v := some 251) (zR_234_29 hR) ?_)
  refine And.intro (zA_234 hS) (zrd (v := m) h28 ?_)
  refine And.intro (zRb rfl) (zbt rfl ?_)
  refine And.intro ⟨(zx0 rfl), (zP_251 hS (by omega) (by omega))⟩ ⟨_, zW6i (zRL rfl), ?_⟩
  refine And.intro ⟨(zRb rfl), (zRb rfl)⟩ (zbf rfl ?_)
  refine And.intro (zA_234 hS) (zrdR (v := some 251) (zR_234_29 hR) ?_)
  refine And.intro (zA_234 hS) (zrd (v := m) h28 ?_)
  refine And.intro (zRb rfl) (zbt rfl ?_)
  refine And.intro ⟨(zx0 rfl), (zP_251 hS (by omega) (by omega))⟩ ⟨_, zW6i (zRL rfl), ?_⟩
  refine And.intro ⟨(zRb rfl), (zRb rfl)⟩ (zbt rfl ?_)
  refine And.intro (zA_234 hS) (zrd (v := m) h28 ?_)
  refine And.intro (zA_234 hS) ⟨_, (zWi (by omega)), ?_⟩
  refine And.intro (zA_234 hS) (zrd (v := (m + 1)) rfl ?_)
  refine zrq (by omega) (hQ _ _ ((show _ = ((m + 1) : Int) from rfl).trans (by omega)) (fun j9 h9 => (by repeat (first | exact rfl | refine zxcj (by omega) ?_))) (fun c j h0 h1 => (zxcj h1 (zxcj h0 rfl))) (fun c j h0 => (zxu h0 (zxu h0 (zxu h0 (zxu h0 (zxu h0 (zxu h0 rfl)))))))))
def T_G_fld : ZT := fun args I L R S Q => ∃ (m : Nat) (kk : Nat) (q : Nat) (v : Int), args = [zvr 234, zvi kk, zvi q, zvl v] ∧ (zSh S) ∧ (zRs R) ∧ (I 234 28 = m) ∧ (kk < m ∧ m ≤ 12) ∧ (q < 6) ∧ (r64 v) ∧ ∀ (b : Int) (I' : ZI) (L' : ZI), (b = 0 ∨ b = 1) → (L' 251 (6 * kk + q) = v) → (∀ j : Nat, ¬ j = 6 * kk + q → L' 251 j = L 251 j) → (∀ c j : Nat, ¬ (c = 234 ∧ j = 0) → I' c j = I c j) → (∀ c j : Nat, ¬ c = 251 → L' c j = L c j) → Q (some (zvi (b))) I' L' R S
theorem sn_G_fld : ZSnd 3 12 17 T_G_fld := ZSnd.of (zT12_17 2) (by
  rintro args I L R S Q hz ⟨m, kk, q, v, rfl, hS, hR, h28, hm, hq, hv, hQ⟩
  have hvr : r64 v := hv
  refine And.intro rfl ?_
  refine And.intro (zA_234 hS) (Exists.intro _ (And.intro (zinl_ok (zT12_25 1)) (And.intro rfl ?_)))
  refine And.intro (by omega) ?_
  refine And.intro (zA_234 hS) (Exists.intro _ (And.intro (zinl_ok (zT12_28 0)) (And.intro rfl ?_)))
  refine ⟨_, _, ⟨zW6i (by omega), zW6i (zRL rfl)⟩, fun z2_4_3 c2_4_3 => ?_⟩
  refine And.intro c2_4_3.2.2 ⟨(fun h3_4_3 => False.elim (by omega)), fun h3_4_3 => ?_⟩
  have k3_4_3 : kk ≥ 0 := by omega
  clear h3_4_3 c2_4_3
  refine And.intro (zA_234 hS) (zrd (v := m) h28 ?_)
  refine And.intro (by omega) ?_
  refine ⟨_, _, ⟨zW6i (by omega), zW6i (by omega)⟩, fun z12_4_3 c12_4_3 => ?_⟩
  refine And.intro c12_4_3.2.2 ⟨(fun h13_4_3 => False.elim (by omega)), fun h13_4_3 => ?_⟩
  have k13_4_3 : kk < m := by omega
  clear h13_4_3 c12_4_3
  refine And.intro (Or.inr rfl) ?_
  refine And.intro (zRb rfl) (zbf rfl ?_)
  refine And.intro (by omega) ⟨(fun h10_4 => False.elim (by omega)), fun h10_4 => ?_⟩
  refine And.intro ⟨(by omega), (zRb rfl)⟩ ⟨(fun h16_4 => False.elim (by omega)), fun h16_4 => ?_⟩
  refine And.intro (Or.inr rfl) ?_
  refine And.intro (zRb rfl) (zbf rfl ?_)
  refine And.intro (zA_234 hS) ⟨_, (zWi (zRb rfl)), ?_⟩
  refine And.intro (zA_234 hS) (zrd (v := 0) rfl ?_)
  refine And.intro (zRb rfl) (zbf rfl ?_)
  refine And.intro (zA_234 hS) (zrdR (v := some 251) (zR_234_29 hR) ?_)
  refine And.intro (zP_251 hS (by omega) (by omega)) (fun v35 e35 r35 => ?_)
  refine ⟨_, _, ⟨zW6i r35, zW6i (by omega)⟩, fun z37 c37 => ?_⟩
  refine And.intro c37.2.2 ⟨fun h38 => ?_, fun h38 => ?_⟩
  · have k38 : v35 ≠ v := by omega
    clear h38 c37
    refine And.intro (zA_234 hS) (zrdR (v := some 251) (zR_234_29 hR) ?_)
    refine And.intro ⟨(zx0 rfl), (zP_251 hS (by omega) (by omega))⟩ ⟨_, zW6i (by omega), ?_⟩
    refine And.intro (Or.inr rfl) ?_
    refine hQ _ _ _ (by omega) (by first | exact (zxe' (by omega)) | exact (congrArg (L 251) (by omega : 6 * kk + q = (6 * (kk : Int) + (q : Int)).toNat)).trans (by omega)) (fun j9 h9 => (by first | exact rfl | exact zxcj (by omega) rfl)) (fun c j h0 => (zxcj h0 rfl)) (fun c j h0 => (zxu h0 rfl))
  · have k38b : v35 = v := by omega
    clear h38 c37
    refine And.intro (Or.inl rfl) ?_
    refine hQ _ _ _ (by omega) (by first | exact (zxe' (by omega)) | exact (congrArg (L 251) (by omega : 6 * kk + q = (6 * (kk : Int) + (q : Int)).toNat)).trans (by omega)) (fun j9 h9 => (by first | exact rfl | exact zxcj (by omega) rfl)) (fun c j h0 => (zxcj h0 rfl)) (fun c j h0 => rfl))
