/-! un -/
def T_Y_err : ZT := fun args I L R S Q => ∃ (w : List Int) (D : DtT) (er : Int × Int × Int) (a : Int), args = [zvr 165, zvi a] ∧ (zSh S) ∧ (zRs R) ∧ (scB w D er I L) ∧ (r32 a) ∧ ∀ (v : Int) (I' : ZI), (v = scEr er a) → (∀ c j : Nat, ¬ (c = 234 ∧ j = 0) → I' c j = I c j) → Q (some (zvi (v))) I' L R S
theorem sn_Y_err : ZSnd 2 21 17 T_Y_err := ZSnd.of (zT21_17 1) (by
  rintro args I L R S Q hz ⟨w, D, er, a, rfl, hS, hR, hB, ha, hQ⟩
  obtain ⟨g, ⟨g3, g3b⟩, g1, g20, gO, gF, gV, ⟨⟨g36, g36b⟩, gou⟩, ⟨⟨g38, g38b⟩, gdm⟩, ⟨g46, g47, g48⟩, g32⟩ := id hB
  obtain ⟨ha1, ha2⟩ : r32 a := ha
  have hr1 : r32 er.1 := by rw [← g46]; exact hz.1 234 46
  have hr2 : r32 er.2.1 := by rw [← g47]; exact hz.1 234 47
  have hr3 : r32 er.2.2 := by rw [← g48]; exact hz.1 234 48
  refine And.intro rfl ?_
  refine And.intro (zA_165 hS) (zrdR (v := some 234) (zR_165_47 hR) ?_)
  refine And.intro (zA_234 hS) (Exists.intro _ (And.intro (zinl_ok (zT12_15 0)) (And.intro rfl ?_)))
  refine And.intro (by omega) ⟨fun h2_5 => ?_, fun h2_5 => ?_⟩
  · refine And.intro (zA_234 hS) ⟨_, (zWi (zRb rfl)), ?_⟩
    refine And.intro (zA_234 hS) (zrd (v := 1) rfl ?_)
    refine And.intro (zRb rfl) (zbf rfl ?_)
    refine And.intro (zA_165 hS) (zrdR (v := some 234) (zR_165_47 hR) ?_)
    refine And.intro (zA_234 hS) (Exists.intro _ (And.intro (zinl_ok (zT12_53 0)) (And.intro rfl ?_)))
    refine And.intro (zA_234 hS) (zrd (v := 1) rfl ?_)
    refine And.intro (zRb rfl) (zbt rfl ?_)
    refine hQ _ _ (by unfold scEr; first | (rw [if_pos (by omega)]) | (rw [if_neg (by omega), if_pos (by omega)]) | (rw [if_neg (by omega), if_neg (by omega), if_pos (by omega)]) | (rw [if_neg (by omega), if_neg (by omega), if_neg (by omega)])) (fun c j h0 => (zxcj h0 rfl))
  · refine And.intro ⟨(by omega), (zRb rfl)⟩ ⟨fun h7_5 => ?_, fun h7_5 => ?_⟩
    · refine And.intro (zA_234 hS) ⟨_, (zWi (zRb rfl)), ?_⟩
      refine And.intro (zA_234 hS) (zrd (v := 1) rfl ?_)
      refine And.intro (zRb rfl) (zbf rfl ?_)
      refine And.intro (zA_165 hS) (zrdR (v := some 234) (zR_165_47 hR) ?_)
      refine And.intro (zA_234 hS) (Exists.intro _ (And.intro (zinl_ok (zT12_53 0)) (And.intro rfl ?_)))
      refine And.intro (zA_234 hS) (zrd (v := 1) rfl ?_)
      refine And.intro (zRb rfl) (zbt rfl ?_)
      refine hQ _ _ (by unfold scEr; first | (rw [if_pos (by omega)]) | (rw [if_neg (by omega), if_pos (by omega)]) | (rw [if_neg (by omega), if_neg (by omega), if_pos (by omega)]) | (rw [if_neg (by omega), if_neg (by omega), if_neg (by omega)])) (fun c j h0 => (zxcj h0 rfl))
    · refine And.intro (zA_234 hS) ⟨_, (zWi (zRb rfl)), ?_⟩
      refine And.intro (zA_234 hS) (zrd (v := 0) rfl ?_)
      refine And.intro (zRb rfl) (zbt rfl ?_)
      refine And.intro (by omega) ⟨fun h28_5 => ?_, fun h28_5 => ?_⟩
      · refine And.intro ⟨(by omega), (zRb rfl)⟩ ⟨fun h40_5 => ?_, fun h40_5 => ?_⟩
        · refine And.intro (zA_234 hS) (zrd (v := (er.2.2)) g48 ?_)
          refine And.intro (zA_165 hS) (zrdR (v := some 234) (zR_165_47 hR) ?_)
          refine And.intro (zA_234 hS) (Exists.intro _ (And.intro (zinl_ok (zT12_53 0)) (And.intro rfl ?_)))
          refine And.intro (zA_234 hS) (zrd (v := 0) rfl ?_)
          refine And.intro (zRb rfl) (zbf rfl ?_)
          refine hQ _ _ (by unfold scEr; first | (rw [if_pos (by omega)]) | (rw [if_neg (by omega), if_pos (by omega)]) | (rw [if_neg (by omega), if_neg (by omega), if_pos (by omega)]) | (rw [if_neg (by omega), if_neg (by omega), if_neg (by omega)])) (fun c j h0 => (zxcj h0 rfl))
        · refine And.intro (zA_234 hS) (zrd (v := (er.2.1)) g47 ?_)
          refine And.intro (zA_165 hS) (zrdR (v := some 234) (zR_165_47 hR) ?_)
          refine And.intro (zA_234 hS) (Exists.intro _ (And.intro (zinl_ok (zT12_53 0)) (And.intro rfl ?_)))
          refine And.intro (zA_234 hS) (zrd (v := 0) rfl ?_)
          refine And.intro (zRb rfl) (zbf rfl ?_)
          refine hQ _ _ (by unfold scEr; first | (rw [if_pos (by omega)]) | (rw [if_neg (by omega), if_pos (by omega)]) | (rw [if_neg (by omega), if_neg (by omega), if_pos (by omega)]) | (rw [if_neg (by omega), if_neg (by omega), if_neg (by omega)])) (fun c j h0 => (zxcj h0 rfl))
      · refine And.intro (zA_234 hS) (zrd (v := (er.1)) g46 ?_)
        refine And.intro (zA_165 hS) (zrdR (v := some 234) (zR_165_47 hR) ?_)
        refine And.intro (zA_234 hS) (Exists.intro _ (And.intro (zinl_ok (zT12_53 0)) (And.intro rfl ?_)))
        refine And.intro (zA_234 hS) (zrd (v := 0) rfl ?_)
        refine And.intro (zRb rfl) (zbf rfl ?_)
        refine hQ _ _ (by unfold scEr; first | (rw [if_pos (by omega)]) | (rw [if_neg (by omega), if_pos (by omega)]) | (rw [if_neg (by omega), if_neg (by omega), if_pos (by omega)]) | (rw [if_neg (by omega), if_neg (by omega), if_neg (by omega)])) (fun c j h0 => (zxcj h0 rfl)))
def T_Y_out : ZT := fun args I L R S Q => ∃ (w : List Int) (D : DtT) (er : Int × Int × Int) (a : Int), args = [zvr 165, zvi a] ∧ (zSh S) ∧ (zRs R) ∧ (scB w D er I L) ∧ (r32 a) ∧ ∀ (v : Int) (I' : ZI), (v = scOu D a) → (∀ c j : Nat, ¬ (c = 234 ∧ j = 0) → I' c j = I c j) → Q (some (zvl (v))) I' L R S
theorem sn_Y_out : ZSnd 2 21 42 T_Y_out := ZSnd.of (zT21_42 1) (by
  rintro args I L R S Q hz ⟨w, D, er, a, rfl, hS, hR, hB, ha, hQ⟩
  obtain ⟨g, ⟨g3, g3b⟩, g1, g20, gO, gF, gV, ⟨⟨g36, g36b⟩, gou⟩, ⟨⟨g38, g38b⟩, gdm⟩, ⟨g46, g47, g48⟩, g32⟩ := id hB
  obtain ⟨ha1, ha2⟩ : r32 a := ha
  refine And.intro rfl ?_
  refine And.intro (zA_165 hS) (zrdR (v := some 234) (zR_165_47 hR) ?_)
  refine And.intro (zA_234 hS) (Exists.intro _ (And.intro (zinl_ok (zT12_35 0)) (And.intro rfl ?_)))
  refine And.intro (by omega) ⟨fun h2_5 => ?_, fun h2_5 => ?_⟩
  · refine And.intro (zA_234 hS) ⟨_, (zWi (zRb rfl)), ?_⟩
    refine And.intro (zA_234 hS) (zrd (v := 1) rfl ?_)
    refine And.intro (zRb rfl) (zbt rfl ?_)
    refine And.intro (zA_165 hS) (zrdR (v := some 234) (zR_165_47 hR) ?_)
    refine And.intro (zA_234 hS) (Exists.intro _ (And.intro (zinl_ok (zT12_53 0)) (And.intro rfl ?_)))
    refine And.intro (zA_234 hS) (zrd (v := 1) rfl ?_)
    refine And.intro (zRb rfl) (zbt rfl ?_)
    refine hQ _ _ (by unfold scOu; first | (rw [if_neg (by omega)]) | (rw [if_pos (by omega), ← f33_5])) (fun c j h0 => (zxcj h0 rfl))
  · refine And.intro (zA_234 hS) (zrd (v := (D.2.1.1)) g36 ?_)
    refine And.intro ⟨(by omega), (by omega)⟩ ⟨fun h10_5 => ?_, fun h10_5 => ?_⟩
    · refine And.intro (zA_234 hS) ⟨_, (zWi (zRb rfl)), ?_⟩
      refine And.intro (zA_234 hS) (zrd (v := 1) rfl ?_)
      refine And.intro (zRb rfl) (zbt rfl ?_)
      refine And.intro (zA_165 hS) (zrdR (v := some 234) (zR_165_47 hR) ?_)
      refine And.intro (zA_234 hS) (Exists.intro _ (And.intro (zinl_ok (zT12_53 0)) (And.intro rfl ?_)))
      refine And.intro (zA_234 hS) (zrd (v := 1) rfl ?_)
      refine And.intro (zRb rfl) (zbt rfl ?_)
      refine hQ _ _ (by unfold scOu; first | (rw [if_neg (by omega)]) | (rw [if_pos (by omega), ← f33_5])) (fun c j h0 => (zxcj h0 rfl))
    · refine And.intro (zA_234 hS) ⟨_, (zWi (zRb rfl)), ?_⟩
      refine And.intro (zA_234 hS) (zrd (v := 0) rfl ?_)
      refine And.intro (zRb rfl) (zbf rfl ?_)
      refine And.intro (zA_234 hS) (zrdR (v := some 254) (zR_234_37 hR) ?_)
      refine And.intro (zP_254 hS (by omega) (by omega)) (fun v33_5 e33_5 r33_5 => ?_)
      have f33_5 : v33_5 = D.2.1.2 a.toNat := (e33_5.trans (zxu (by decide) (gou a.toNat (by omega))))
      refine And.intro (zA_165 hS) (zrdR (v := some 234) (zR_165_47 hR) ?_)
      refine And.intro (zA_234 hS) (Exists.intro _ (And.intro (zinl_ok (zT12_53 0)) (And.intro rfl ?_)))
      refine And.intro (zA_234 hS) (zrd (v := 0) rfl ?_)
      refine And.intro (zRb rfl) (zbf rfl ?_)
      refine And.intro r33_5 ?_
      refine hQ _ _ (by unfold scOu; first | (rw [if_neg (by omega)]) | (rw [if_pos (by omega), ← f33_5])) (fun c j h0 => (zxcj h0 rfl)))
