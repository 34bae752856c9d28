/-! zy -/
def T_S_bkF : ZT := fun args I L R S Q => ∃ (k : Nat) (n : Nat) (e : Nat → Int) (d : Int) (f : Int) (u : Int) (w : Int), args = [zvr k, zvi d, zvi u, zvi w] ∧ (zSh S) ∧ (zRs R) ∧ (zDy zT8 zF8 k R S) ∧ (k = 130 ∨ k = 134) ∧ (zEt k n e I) ∧ (I k 3 = f) ∧ (0 ≤ f ∧ f ≤ 1000) ∧ (r32 d) ∧ ((0 ≤ u ∧ u ≤ 126) ∧ 0 ≤ w ∧ w ≤ 126) ∧ Q none I L R S
theorem sn_S_bkF : ZSnd 3 8 12 T_S_bkF := ZSnd.of (zT8_12 2) (by
  rintro args I L R S Q hz ⟨k, n, e, d, f, u, w, rfl, hS, hR, hD, hk, hE, h3, hf, rd, hu, hQ⟩
  have hk130 : 130 ≤ k := by omega
  have hk134 : k ≤ 134 := by omega
  obtain ⟨hE1, hE2, hE3⟩ := id hE
  have hn4 := hE2.1
  refine And.intro rfl ?_
  refine And.intro (zDX hD 0 rfl) (Exists.intro _ (And.intro (zinl_ok (zT8_8 1)) (And.intro rfl ?_)))
  refine And.intro (zDX hD 0 rfl) (zrd (v := f) h3 ?_)
  refine And.intro ⟨(by omega), (zRb rfl)⟩ ⟨fun h5_2 => ?_, (fun h5_2 => False.elim (by omega))⟩
  refine And.intro (Or.inl rfl) ?_
  refine And.intro (zRb rfl) (zbt rfl ?_)
  refine And.intro (zDX hD 0 rfl) (fun v15 e15 r15 => ?_)
  refine And.intro (zDX hD 0 rfl) (Exists.intro _ (And.intro (zinl_ok (zT8_2 1)) (And.intro rfl ?_)))
  refine And.intro (zDX hD 0 rfl) (zrd (v := f) h3 ?_)
  refine And.intro ⟨(by omega), (zRb rfl)⟩ ⟨fun h5_18 => ?_, (fun h5_18 => False.elim (by omega))⟩
  refine hQ )
def T_S_fnF : ZT := fun args I L R S Q => ∃ (k : Nat) (n : Nat) (e : Nat → Int) (d : Int) (f : Int) (a : Int) (g : Int), args = [zvr k, zvi d, zvi g] ∧ (zSh S) ∧ (zRs R) ∧ (zDy zT8 zF8 k R S) ∧ (k = 130 ∨ k = 134) ∧ (zEt k n e I) ∧ (I k 3 = f) ∧ (0 ≤ f ∧ f ≤ 1000) ∧ (r32 d) ∧ (I k 2 = a) ∧ (0 ≤ a ∧ a ≤ 800) ∧ (0 ≤ g ∧ g ≤ 800) ∧ ∀ (I' : ZI), (a ≤ I' k 2 ∧ I' k 2 ≤ a + 1) → (∀ c j : Nat, ¬ (c = k ∧ j = 2) → ¬ c = k + 3 → I' c j = I c j) → Q none I' L R S
theorem sn_S_fnF : ZSnd 6 8 17 T_S_fnF := ZSnd.of (zT8_17 5) (by
  rintro args I L R S Q hz ⟨k, n, e, d, f, a, g, rfl, hS, hR, hD, hk, hE, h3, hf, rd, h2, ha, hg, hQ⟩
  have hk130 : 130 ≤ k := by omega
  have hk134 : k ≤ 134 := by omega
  obtain ⟨hE1, hE2, hE3⟩ := id hE
  have hn4 := hE2.1
  refine And.intro rfl ?_
  refine And.intro (zDX hD 0 rfl) (zrd (v := a) h2 ?_)
  refine And.intro (zDX hD 0 rfl) ⟨_, sn_S_let.up (by decide), ?_⟩
  refine ⟨_, n, e, (a : Int), (a).toNat, rfl, hS, hR, hD, (by first | exact hk | (clear hQ; grind [xu])), (by first | exact (zEt_fr hE (fun c j h => rfl)) | (clear hQ; grind [xu])), (by omega), ?_⟩
  intro v5o p5hv p5bhv2
  refine Exists.intro _ (And.intro (zinl_ok (zT8_7 4)) (And.intro rfl ?_))
  refine And.intro ⟨(by omega), (zRb rfl)⟩ ⟨fun h3_10 => ?_, fun h3_10 => ?_⟩
  · refine And.intro (Or.inl rfl) ?_
    refine And.intro (zRb rfl) (zbf rfl ?_)
    refine And.intro (zDX hD 0 rfl) (zrd (v := a) h2 ?_)
    refine And.intro (zDX hD 0 rfl) (Exists.intro _ (And.intro (zinl_ok (zT8_2 4)) (And.intro rfl ?_)))
    refine And.intro (zDX hD 0 rfl) (zrd (v := f) h3 ?_)
    refine And.intro ⟨(by omega), (zRb rfl)⟩ ⟨fun h5_21 => ?_, (fun h5_21 => False.elim (by omega))⟩
    refine hQ _ (by first | omega | (rw [show (_ : Int) = a + 1 from (zxu (by omega) zxe)]; omega) | (rw [show (_ : Int) = a + 1 from zxe]; omega)) (fun c j h0 h1 => rfl)
  · refine And.intro ⟨(by omega), (zRb rfl)⟩ ⟨fun h9_10 => ?_, fun h9_10 => ?_⟩
    · refine And.intro (Or.inl rfl) ?_
      refine And.intro (zRb rfl) (zbf rfl ?_)
      refine And.intro (zDX hD 0 rfl) (zrd (v := a) h2 ?_)
      refine And.intro (zDX hD 0 rfl) (Exists.intro _ (And.intro (zinl_ok (zT8_2 4)) (And.intro rfl ?_)))
      refine And.intro (zDX hD 0 rfl) (zrd (v := f) h3 ?_)
      refine And.intro ⟨(by omega), (zRb rfl)⟩ ⟨fun h5_21 => ?_, (fun h5_21 => False.elim (by omega))⟩
      refine hQ _ (by first | omega | (rw [show (_ : Int) = a + 1 from (zxu (by omega) zxe)]; omega) | (rw [show (_ : Int) = a + 1 from zxe]; omega)) (fun c j h0 h1 => rfl)
    · refine And.intro (Or.inr rfl) ?_
      refine And.intro (zRb rfl) (zbt rfl ?_)
      refine And.intro (by omega) ⟨fun h26 => ?_, fun h26 => ?_⟩
      · refine And.intro (zDX hD 0 rfl) (Exists.intro _ (And.intro (zinl_ok (zT8_2 4)) (And.intro rfl ?_)))
        refine And.intro (zDX hD 0 rfl) (zrd (v := f) h3 ?_)
        refine And.intro ⟨(by omega), (zRb rfl)⟩ ⟨fun h5_40 => ?_, (fun h5_40 => False.elim (by omega))⟩
        refine hQ _ (by first | omega | (rw [show (_ : Int) = a + 1 from (zxu (by omega) zxe)]; omega) | (rw [show (_ : Int) = a + 1 from zxe]; omega)) (fun c j h0 h1 => rfl)
      · refine And.intro (zDX hD 0 rfl) (Exists.intro _ (And.intro (zinl_ok (zT8_4 4)) (And.intro rfl ?_)))
        refine Exists.intro _ (And.intro (zinl_ok (zT8_7 3)) (And.intro rfl ?_))
        refine And.intro ⟨(by omega), (zRb rfl)⟩ ⟨(fun h3_31_1 => False.elim (by omega)), fun h3_31_1 => ?_⟩
        refine And.intro ⟨(by omega), (zRb rfl)⟩ ⟨(fun h9_31_1 => False.elim (by omega)), fun h9_31_1 => ?_⟩
        refine And.intro (Or.inr rfl) ?_
        refine And.intro (zRb rfl) (zbf rfl ?_)
        refine And.intro (zDX hD 0 rfl) (zrdR (v := some (k + 3)) (zDR hD 2 rfl) ?_)
        refine And.intro (zDP hD 3 rfl rfl (by omega) (by omega)) (fun v15_31 e15_31 r15_31 => ?_)
        refine And.intro ⟨r15_31, (zRb rfl)⟩ ⟨fun h35 => ?_, fun h35 => ?_⟩
        · refine And.intro (zDX hD 0 rfl) (zrd (v := a) h2 ?_)
          refine And.intro (zDX hD 0 rfl) ⟨_, (zWi (by omega)), ?_⟩
          refine And.intro (zDX hD 0 rfl) (zrdR (v := some (k + 3)) (zDR hD 2 rfl) ?_)
          refine And.intro (zDX hD 0 rfl) (zrd (v := (a + 1)) zxe ?_)
          refine And.intro ⟨(by show 40 ≤ _; omega), (zDP hD 3 rfl rfl (by omega) (by omega))⟩ ⟨_, (zWi (by omega)), ?_⟩
          refine And.intro (zDX hD 0 rfl) ⟨_, sn_S_bkF.up (by decide), ?_⟩
          refine ⟨_, _, _, (d : Int), (f : Int), (123 : Int), (125 : Int), rfl, hS, hR, hD, (by first | exact hk | (clear hQ; grind [xu])), (by first | exact (zEt_fr hE (fun c j h => (zxcj (by omega) (zxcj (by omega) rfl)))) | (clear hQ; grind [xu])), (zxu (by omega) (zxs (by decide) h3)), (by omega), (by omega), (by clear hQ; grind [xu]), ?_⟩
          refine hQ _ (by first | omega | (rw [show (_ : Int) = a + 1 from (zxu (by omega) zxe)]; omega) | (rw [show (_ : Int) = a + 1 from zxe]; omega)) (fun c j h0 h1 => (zxu h1 (zxcj h0 rfl)))
        · refine And.intro (zDX hD 0 rfl) (Exists.intro _ (And.intro (zinl_ok (zT8_2 4)) (And.intro rfl ?_)))
          refine And.intro (zDX hD 0 rfl) (zrd (v := f) h3 ?_)
          refine And.intro ⟨(by omega), (zRb rfl)⟩ ⟨fun h5_40 => ?_, (fun h5_40 => False.elim (by omega))⟩
          refine hQ _ (by first | omega | (rw [show (_ : Int) = a + 1 from (zxu (by omega) zxe)]; omega) | (rw [show (_ : Int) = a + 1 from zxe]; omega)) (fun c j h0 h1 => rfl))
