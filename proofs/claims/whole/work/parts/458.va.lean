/-! va -/
def T_V_fld : ZT := fun args I L R S Q => ∃ (a : Int) (a_ : Nat) (i : Int) (i_ : Nat), args = [zvi a, zvi i] ∧ (a = a_ ∧ a_ < 10) ∧ (i = i_ ∧ i_ < 6) ∧ ∀ (v : Int), (v = oFt a_ i_) → (0 ≤ v ∧ v ≤ 3) → Q (some (zvi (v))) I L R S
theorem sn_V_fld : ZSnd 1 20 10 T_V_fld := ZSnd.of (zT20_10 0) (by
  rintro args I L R S Q hz ⟨a, a_, i, i_, rfl, ha, hi, hQ⟩
  refine And.intro rfl ?_
  refine And.intro (by omega) (And.intro (And.intro (fun h1 => ?_) (And.intro (fun h1 => ?_) (And.intro (fun h1 => ?_) (And.intro (fun h1 => ?_) (And.intro (fun h1 => ?_) (And.intro (fun h1 => ?_) (And.intro (fun h1 => ?_) (And.intro (fun h1 => ?_) True.intro)))))))) (fun h1 => ?_))
  · refine And.intro (by omega) ⟨fun h49 => ?_, fun h49 => ?_⟩
    · refine And.intro ⟨(by omega), (zRb rfl)⟩ ⟨fun h58 => ?_, fun h58 => ?_⟩
      · refine hQ _ ?_ (by omega)
        · have qa : a_ = 0 ∨ a_ = 1 ∨ a_ = 2 ∨ a_ = 3 ∨ a_ = 4 ∨ a_ = 5 ∨ a_ = 6 ∨ a_ = 7 ∨ a_ = 8 ∨ a_ = 9 := (by omega)
          have qi : i_ = 0 ∨ i_ = 1 ∨ i_ = 2 ∨ i_ = 3 ∨ i_ = 4 ∨ i_ = 5 := (by omega)
          clear hQ
          rcases qa with rfl | rfl | rfl | rfl | rfl | rfl | rfl | rfl | rfl | rfl <;> first | (exfalso; omega) | (rcases qi with rfl | rfl | rfl | rfl | rfl | rfl <;> first | rfl | (exfalso; omega))
      · refine hQ _ ?_ (by omega)
        · have qa : a_ = 0 ∨ a_ = 1 ∨ a_ = 2 ∨ a_ = 3 ∨ a_ = 4 ∨ a_ = 5 ∨ a_ = 6 ∨ a_ = 7 ∨ a_ = 8 ∨ a_ = 9 := (by omega)
          have qi : i_ = 0 ∨ i_ = 1 ∨ i_ = 2 ∨ i_ = 3 ∨ i_ = 4 ∨ i_ = 5 := (by omega)
          clear hQ
          rcases qa with rfl | rfl | rfl | rfl | rfl | rfl | rfl | rfl | rfl | rfl <;> first | (exfalso; omega) | (rcases qi with rfl | rfl | rfl | rfl | rfl | rfl <;> first | rfl | (exfalso; omega))
    · refine hQ _ ?_ (by omega)
      · have qa : a_ = 0 ∨ a_ = 1 ∨ a_ = 2 ∨ a_ = 3 ∨ a_ = 4 ∨ a_ = 5 ∨ a_ = 6 ∨ a_ = 7 ∨ a_ = 8 ∨ a_ = 9 := (by omega)
        have qi : i_ = 0 ∨ i_ = 1 ∨ i_ = 2 ∨ i_ = 3 ∨ i_ = 4 ∨ i_ = 5 := (by omega)
        clear hQ
        rcases qa with rfl | rfl | rfl | rfl | rfl | rfl | rfl | rfl | rfl | rfl <;> first | (exfalso; omega) | (rcases qi with rfl | rfl | rfl | rfl | rfl | rfl <;> first | rfl | (exfalso; omega))
  · refine And.intro ⟨(by omega), (zRb rfl)⟩ ⟨fun h69 => ?_, fun h69 => ?_⟩
    · refine And.intro ⟨(by omega), (zRb rfl)⟩ ⟨fun h78 => ?_, fun h78 => ?_⟩
      · refine hQ _ ?_ (by omega)
        · have qa : a_ = 0 ∨ a_ = 1 ∨ a_ = 2 ∨ a_ = 3 ∨ a_ = 4 ∨ a_ = 5 ∨ a_ = 6 ∨ a_ = 7 ∨ a_ = 8 ∨ a_ = 9 := (by omega)
          have qi : i_ = 0 ∨ i_ = 1 ∨ i_ = 2 ∨ i_ = 3 ∨ i_ = 4 ∨ i_ = 5 := (by omega)
          clear hQ
          rcases qa with rfl | rfl | rfl | rfl | rfl | rfl | rfl | rfl | rfl | rfl <;> first | (exfalso; omega) | (rcases qi with rfl | rfl | rfl | rfl | rfl | rfl <;> first | rfl | (exfalso; omega))
      · refine hQ _ ?_ (by omega)
        · have qa : a_ = 0 ∨ a_ = 1 ∨ a_ = 2 ∨ a_ = 3 ∨ a_ = 4 ∨ a_ = 5 ∨ a_ = 6 ∨ a_ = 7 ∨ a_ = 8 ∨ a_ = 9 := (by omega)
          have qi : i_ = 0 ∨ i_ = 1 ∨ i_ = 2 ∨ i_ = 3 ∨ i_ = 4 ∨ i_ = 5 := (by omega)
          clear hQ
          rcases qa with rfl | rfl | rfl | rfl | rfl | rfl | rfl | rfl | rfl | rfl <;> first | (exfalso; omega) | (rcases qi with rfl | rfl | rfl | rfl | rfl | rfl <;> first | rfl | (exfalso; omega))
    · refine hQ _ ?_ (by omega)
      · have qa : a_ = 0 ∨ a_ = 1 ∨ a_ = 2 ∨ a_ = 3 ∨ a_ = 4 ∨ a_ = 5 ∨ a_ = 6 ∨ a_ = 7 ∨ a_ = 8 ∨ a_ = 9 := (by omega)
        have qi : i_ = 0 ∨ i_ = 1 ∨ i_ = 2 ∨ i_ = 3 ∨ i_ = 4 ∨ i_ = 5 := (by omega)
        clear hQ
        rcases qa with rfl | rfl | rfl | rfl | rfl | rfl | rfl | rfl | rfl | rfl <;> first | (exfalso; omega) | (rcases qi with rfl | rfl | rfl | rfl | rfl | rfl <;> first | rfl | (exfalso; omega))
  · refine And.intro (by omega) ⟨fun h88 => ?_, fun h88 => ?_⟩
    · refine hQ _ ?_ (by omega)
      · have qa : a_ = 0 ∨ a_ = 1 ∨ a_ = 2 ∨ a_ = 3 ∨ a_ = 4 ∨ a_ = 5 ∨ a_ = 6 ∨ a_ = 7 ∨ a_ = 8 ∨ a_ = 9 := (by omega)
        have qi : i_ = 0 ∨ i_ = 1 ∨ i_ = 2 ∨ i_ = 3 ∨ i_ = 4 ∨ i_ = 5 := (by omega)
        clear hQ
        rcases qa with rfl | rfl | rfl | rfl | rfl | rfl | rfl | rfl | rfl | rfl <;> first | (exfalso; omega) | (rcases qi with rfl | rfl | rfl | rfl | rfl | rfl <;> first | rfl | (exfalso; omega))
    · refine hQ _ ?_ (by omega)
      · have qa : a_ = 0 ∨ a_ = 1 ∨ a_ = 2 ∨ a_ = 3 ∨ a_ = 4 ∨ a_ = 5 ∨ a_ = 6 ∨ a_ = 7 ∨ a_ = 8 ∨ a_ = 9 := (by omega)
        have qi : i_ = 0 ∨ i_ = 1 ∨ i_ = 2 ∨ i_ = 3 ∨ i_ = 4 ∨ i_ = 5 := (by omega)
        clear hQ
        rcases qa with rfl | rfl | rfl | rfl | rfl | rfl | rfl | rfl | rfl | rfl <;> first | (exfalso; omega) | (rcases qi with rfl | rfl | rfl | rfl | rfl | rfl <;> first | rfl | (exfalso; omega))
  · refine And.intro ⟨(by omega), (zRb rfl)⟩ ⟨fun h99 => ?_, fun h99 => ?_⟩
    · refine And.intro ⟨(by omega), (zRb rfl)⟩ ⟨fun h108 => ?_, fun h108 => ?_⟩
      · refine And.intro ⟨(by omega), (zRb rfl)⟩ ⟨fun h117 => ?_, fun h117 => ?_⟩
        · refine hQ _ ?_ (by omega)
          · have qa : a_ = 0 ∨ a_ = 1 ∨ a_ = 2 ∨ a_ = 3 ∨ a_ = 4 ∨ a_ = 5 ∨ a_ = 6 ∨ a_ = 7 ∨ a_ = 8 ∨ a_ = 9 := (by omega)
            have qi : i_ = 0 ∨ i_ = 1 ∨ i_ = 2 ∨ i_ = 3 ∨ i_ = 4 ∨ i_ = 5 := (by omega)
            clear hQ
            rcases qa with rfl | rfl | rfl | rfl | rfl | rfl | rfl | rfl | rfl | rfl <;> first | (exfalso; omega) | (rcases qi with rfl | rfl | rfl | rfl | rfl | rfl <;> first | rfl | (exfalso; omega))
        · refine hQ _ ?_ (by omega)
          · have qa : a_ = 0 ∨ a_ = 1 ∨ a_ = 2 ∨ a_ = 3 ∨ a_ = 4 ∨ a_ = 5 ∨ a_ = 6 ∨ a_ = 7 ∨ a_ = 8 ∨ a_ = 9 := (by omega)
            have qi : i_ = 0 ∨ i_ = 1 ∨ i_ = 2 ∨ i_ = 3 ∨ i_ = 4 ∨ i_ = 5 := (by omega)
            clear hQ
            rcases qa with rfl | rfl | rfl | rfl | rfl | rfl | rfl | rfl | rfl | rfl <;> first | (exfalso; omega) | (rcases qi with rfl | rfl | rfl | rfl | rfl | rfl <;> first | rfl | (exfalso; omega))
      · refine hQ _ ?_ (by omega)
        · have qa : a_ = 0 ∨ a_ = 1 ∨ a_ = 2 ∨ a_ = 3 ∨ a_ = 4 ∨ a_ = 5 ∨ a_ = 6 ∨ a_ = 7 ∨ a_ = 8 ∨ a_ = 9 := (by omega)
          have qi : i_ = 0 ∨ i_ = 1 ∨ i_ = 2 ∨ i_ = 3 ∨ i_ = 4 ∨ i_ = 5 := (by omega)
          clear hQ
          rcases qa with rfl | rfl | rfl | rfl | rfl | rfl | rfl | rfl | rfl | rfl <;> first | (exfalso; omega) | (rcases qi with rfl | rfl | rfl | rfl | rfl | rfl <;> first | rfl | (exfalso; omega))
    · refine hQ _ ?_ (by omega)
      · have qa : a_ = 0 ∨ a_ = 1 ∨ a_ = 2 ∨ a_ = 3 ∨ a_ = 4 ∨ a_ = 5 ∨ a_ = 6 ∨ a_ = 7 ∨ a_ = 8 ∨ a_ = 9 := (by omega)
        have qi : i_ = 0 ∨ i_ = 1 ∨ i_ = 2 ∨ i_ = 3 ∨ i_ = 4 ∨ i_ = 5 := (by omega)
        clear hQ
        rcases qa with rfl | rfl | rfl | rfl | rfl | rfl | rfl | rfl | rfl | rfl <;> first | (exfalso; omega) | (rcases qi with rfl | rfl | rfl | rfl | rfl | rfl <;> first | rfl | (exfalso; omega))
  · refine And.intro ⟨(by omega), (zRb rfl)⟩ ⟨fun h128 => ?_, fun h128 => ?_⟩
    · refine And.intro ⟨(by omega), (zRb rfl)⟩ ⟨fun h137 => ?_, fun h137 => ?_⟩
      · refine hQ _ ?_ (by omega)
        · have qa : a_ = 0 ∨ a_ = 1 ∨ a_ = 2 ∨ a_ = 3 ∨ a_ = 4 ∨ a_ = 5 ∨ a_ = 6 ∨ a_ = 7 ∨ a_ = 8 ∨ a_ = 9 := (by omega)
          have qi : i_ = 0 ∨ i_ = 1 ∨ i_ = 2 ∨ i_ = 3 ∨ i_ = 4 ∨ i_ = 5 := (by omega)
          clear hQ
          rcases qa with rfl | rfl | rfl | rfl | rfl | rfl | rfl | rfl | rfl | rfl <;> first | (exfalso; omega) | (rcases qi with rfl | rfl | rfl | rfl | rfl | rfl <;> first | rfl | (exfalso; omega))
      · refine hQ _ ?_ (by omega)
        · have qa : a_ = 0 ∨ a_ = 1 ∨ a_ = 2 ∨ a_ = 3 ∨ a_ = 4 ∨ a_ = 5 ∨ a_ = 6 ∨ a_ = 7 ∨ a_ = 8 ∨ a_ = 9 := (by omega)
          have qi : i_ = 0 ∨ i_ = 1 ∨ i_ = 2 ∨ i_ = 3 ∨ i_ = 4 ∨ i_ = 5 := (by omega)
          clear hQ
          rcases qa with rfl | rfl | rfl | rfl | rfl | rfl | rfl | rfl | rfl | rfl <;> first | (exfalso; omega) | (rcases qi with rfl | rfl | rfl | rfl | rfl | rfl <;> first | rfl | (exfalso; omega))
    · refine hQ _ ?_ (by omega)
      · have qa : a_ = 0 ∨ a_ = 1 ∨ a_ = 2 ∨ a_ = 3 ∨ a_ = 4 ∨ a_ = 5 ∨ a_ = 6 ∨ a_ = 7 ∨ a_ = 8 ∨ a_ = 9 := (by omega)
        have qi : i_ = 0 ∨ i_ = 1 ∨ i_ = 2 ∨ i_ = 3 ∨ i_ = 4 ∨ i_ = 5 := (by omega)
        clear hQ
        rcases qa with rfl | rfl | rfl | rfl | rfl | rfl | rfl | rfl | rfl | rfl <;> first | (exfalso; omega) | (rcases qi with rfl | rfl | rfl | rfl | rfl | rfl <;> first | rfl | (exfalso; omega))
  · refine And.intro ⟨(by omega), (zRb rfl)⟩ ⟨fun h148 => ?_, fun h148 => ?_⟩
    · refine hQ _ ?_ (by omega)
      · have qa : a_ = 0 ∨ a_ = 1 ∨ a_ = 2 ∨ a_ = 3 ∨ a_ = 4 ∨ a_ = 5 ∨ a_ = 6 ∨ a_ = 7 ∨ a_ = 8 ∨ a_ = 9 := (by omega)
        have qi : i_ = 0 ∨ i_ = 1 ∨ i_ = 2 ∨ i_ = 3 ∨ i_ = 4 ∨ i_ = 5 := (by omega)
        clear hQ
        rcases qa with rfl | rfl | rfl | rfl | rfl | rfl | rfl | rfl | rfl | rfl <;> first | (exfalso; omega) | (rcases qi with rfl | rfl | rfl | rfl | rfl | rfl <;> first | rfl | (exfalso; omega))
    · refine And.intro ⟨(by omega), (zRb rfl)⟩ ⟨fun h153 => ?_, fun h153 => ?_⟩
      · refine And.intro ⟨(by omega), (zRb rfl)⟩ ⟨fun h162 => ?_, fun h162 => ?_⟩
        · refine hQ _ ?_ (by omega)
          · have qa : a_ = 0 ∨ a_ = 1 ∨ a_ = 2 ∨ a_ = 3 ∨ a_ = 4 ∨ a_ = 5 ∨ a_ = 6 ∨ a_ = 7 ∨ a_ = 8 ∨ a_ = 9 := (by omega)
            have qi : i_ = 0 ∨ i_ = 1 ∨ i_ = 2 ∨ i_ = 3 ∨ i_ = 4 ∨ i_ = 5 := (by omega)
            clear hQ
            rcases qa with rfl | rfl | rfl | rfl | rfl | rfl | rfl | rfl | rfl | rfl <;> first | (exfalso; omega) | (rcases qi with rfl | rfl | rfl | rfl | rfl | rfl <;> first | rfl | (exfalso; omega))
        · refine hQ _ ?_ (by omega)
          · have qa : a_ = 0 ∨ a_ = 1 ∨ a_ = 2 ∨ a_ = 3 ∨ a_ = 4 ∨ a_ = 5 ∨ a_ = 6 ∨ a_ = 7 ∨ a_ = 8 ∨ a_ = 9 := (by omega)
            have qi : i_ = 0 ∨ i_ = 1 ∨ i_ = 2 ∨ i_ = 3 ∨ i_ = 4 ∨ i_ = 5 := (by omega)
            clear hQ
            rcases qa with rfl | rfl | rfl | rfl | rfl | rfl | rfl | rfl | rfl | rfl <;> first | (exfalso; omega) | (rcases qi with rfl | rfl | rfl | rfl | rfl | rfl <;> first | rfl | (exfalso; omega))
      · refine hQ _ ?_ (by omega)
        · have qa : a_ = 0 ∨ a_ = 1 ∨ a_ = 2 ∨ a_ = 3 ∨ a_ = 4 ∨ a_ = 5 ∨ a_ = 6 ∨ a_ = 7 ∨ a_ = 8 ∨ a_ = 9 := (by omega)
          have qi : i_ = 0 ∨ i_ = 1 ∨ i_ = 2 ∨ i_ = 3 ∨ i_ = 4 ∨ i_ = 5 := (by omega)
          clear hQ
          rcases qa with rfl | rfl | rfl | rfl | rfl | rfl | rfl | rfl | rfl | rfl <;> first | (exfalso; omega) | (rcases qi with rfl | rfl | rfl | rfl | rfl | rfl <;> first | rfl | (exfalso; omega))
  · refine And.intro ⟨(by omega), (zRb rfl)⟩ ⟨fun h173 => ?_, fun h173 => ?_⟩
    · refine hQ _ ?_ (by omega)
      · have qa : a_ = 0 ∨ a_ = 1 ∨ a_ = 2 ∨ a_ = 3 ∨ a_ = 4 ∨ a_ = 5 ∨ a_ = 6 ∨ a_ = 7 ∨ a_ = 8 ∨ a_ = 9 := (by omega)
        have qi : i_ = 0 ∨ i_ = 1 ∨ i_ = 2 ∨ i_ = 3 ∨ i_ = 4 ∨ i_ = 5 := (by omega)
        clear hQ
        rcases qa with rfl | rfl | rfl | rfl | rfl | rfl | rfl | rfl | rfl | rfl <;> first | (exfalso; omega) | (rcases qi with rfl | rfl | rfl | rfl | rfl | rfl <;> first | rfl | (exfalso; omega))
    · refine hQ _ ?_ (by omega)
      · have qa : a_ = 0 ∨ a_ = 1 ∨ a_ = 2 ∨ a_ = 3 ∨ a_ = 4 ∨ a_ = 5 ∨ a_ = 6 ∨ a_ = 7 ∨ a_ = 8 ∨ a_ = 9 := (by omega)
        have qi : i_ = 0 ∨ i_ = 1 ∨ i_ = 2 ∨ i_ = 3 ∨ i_ = 4 ∨ i_ = 5 := (by omega)
        clear hQ
        rcases qa with rfl | rfl | rfl | rfl | rfl | rfl | rfl | rfl | rfl | rfl <;> first | (exfalso; omega) | (rcases qi with rfl | rfl | rfl | rfl | rfl | rfl <;> first | rfl | (exfalso; omega))
  · refine And.intro ⟨(by omega), (zRb rfl)⟩ ⟨fun h184 => ?_, fun h184 => ?_⟩
    · refine hQ _ ?_ (by omega)
      · have qa : a_ = 0 ∨ a_ = 1 ∨ a_ = 2 ∨ a_ = 3 ∨ a_ = 4 ∨ a_ = 5 ∨ a_ = 6 ∨ a_ = 7 ∨ a_ = 8 ∨ a_ = 9 := (by omega)
        have qi : i_ = 0 ∨ i_ = 1 ∨ i_ = 2 ∨ i_ = 3 ∨ i_ = 4 ∨ i_ = 5 := (by omega)
        clear hQ
        rcases qa with rfl | rfl | rfl | rfl | rfl | rfl | rfl | rfl | rfl | rfl <;> first | (exfalso; omega) | (rcases qi with rfl | rfl | rfl | rfl | rfl | rfl <;> first | rfl | (exfalso; omega))
    · refine hQ _ ?_ (by omega)
      · have qa : a_ = 0 ∨ a_ = 1 ∨ a_ = 2 ∨ a_ = 3 ∨ a_ = 4 ∨ a_ = 5 ∨ a_ = 6 ∨ a_ = 7 ∨ a_ = 8 ∨ a_ = 9 := (by omega)
        have qi : i_ = 0 ∨ i_ = 1 ∨ i_ = 2 ∨ i_ = 3 ∨ i_ = 4 ∨ i_ = 5 := (by omega)
        clear hQ
        rcases qa with rfl | rfl | rfl | rfl | rfl | rfl | rfl | rfl | rfl | rfl <;> first | (exfalso; omega) | (rcases qi with rfl | rfl | rfl | rfl | rfl | rfl <;> first | rfl | (exfalso; omega))
  · refine hQ _ ?_ (by omega)
    · have qa : a_ = 0 ∨ a_ = 1 ∨ a_ = 2 ∨ a_ = 3 ∨ a_ = 4 ∨ a_ = 5 ∨ a_ = 6 ∨ a_ = 7 ∨ a_ = 8 ∨ a_ = 9 := (by omega)
      have qi : i_ = 0 ∨ i_ = 1 ∨ i_ = 2 ∨ i_ = 3 ∨ i_ = 4 ∨ i_ = 5 := (by omega)
      clear hQ
      rcases qa with rfl | rfl | rfl | rfl | rfl | rfl | rfl | rfl | rfl | rfl <;> first | (exfalso; omega) | (rcases qi with rfl | rfl | rfl | rfl | rfl | rfl <;> first | rfl | (exfalso; omega)))
def T_V_fof : ZT := fun args I L R S Q => ∃ (a : Int) (a_ : Nat) (w : Int) (b : Int) (b_ : Nat), args = [zvi a, zvi w, zvi b] ∧ (a = a_ ∧ a_ < 10) ∧ (b = b_ ∧ b_ < 2) ∧ (r32 w) ∧ ∀ (v : Int), ((0 ≤ v ∧ 0 ≤ w ∧ w < oCt a_ b_) ∨ (v = -1 ∧ ¬ (0 ≤ w ∧ w < oCt a_ b_))) → (-1 ≤ v ∧ v ≤ 5) → Q (some (zvi (v))) I L R S
theorem sn_V_fof : ZSnd 2 20 11 T_V_fof := ZSnd.loops (zT20_11 1) (by
  rintro args I L R S Q hz ⟨a, a_, w, b, b_, rfl, ha, hb, hw, hQ⟩
  refine ⟨[5], fun nM tM lsM stM I1 L1 R1 S1 => match tM with
      | 5 => ∃ (i : Nat) (l : Int), nM = ((6 - i), 0, 0) ∧ lsM = [some (zvi (a_)), some (zvi (w)), some (zvi (b_)), some (zvi (l)), some (zvi (i))] ∧ stM = [] ∧ I1 = I ∧ L1 = L ∧ R1 = R ∧ S1 = S ∧ (i ≤ 5) ∧ (l = w - oCi a_ b_ i) ∧ (0 ≤ w → 0 ≤ l)
      | _ => False, rfl, ?_, ⟨?_, True.intro⟩⟩
  · refine ⟨((6 - (0 : Nat)), 0, 0), [some (zvi (a_)), some (zvi (w)), some (zvi (b_)), some (zvi (w)), some (zvi ((0 : Nat)))], ⟨(congrArg (fun z => some (zvi z)) (by omega)), rfl, (congrArg (fun z => some (zvi z)) (by omega)), rfl, rfl, rfl⟩, 0, w, rfl, rfl, rfl, rfl, rfl, rfl, rfl, (by omega), (by show w = w - ((0 : Nat) : Int); omega), (by clear hQ; grind [xu])⟩
  · rintro nM lsM stM I1 L1 R1 S1 hz1 ⟨i, l, rfl, rfl, rfl, rfl, rfl, rfl, rfl, hi, hl, hl2⟩
    obtain ⟨k1, k2⟩ := oFt_b a_ ha.2 i (by omega)
    obtain ⟨c1, c2, c3⟩ := oCi_q a_ ha.2 b_ hb.2 i (by omega)
    have ct := @oCi_t a_ b_ i
    have cf := @oCi_f a_ b_ i
    refine ⟨_, sn_V_fld.up (by decide), ?_⟩
    refine ⟨(a_ : Int), a_, (i : Int), i, rfl, (by omega), (by omega), ?_⟩
    intro v8o p8hv p8bhv2
    refine And.intro (by omega) ⟨fun h11 => ?_, fun h11 => ?_⟩
    · refine hQ _ (by first | exact Or.inr ⟨rfl, by have z := c1 (by omega); omega⟩ | exact Or.inr ⟨rfl, by omega⟩ | exact Or.inl ⟨by omega, by omega, by have z := ct (by omega); have z2 := c2 (by omega); omega⟩) (by omega)
    · have t11 : i ≤ 4 := (by omega)
      refine And.intro (by omega) ⟨fun h15 => ?_, fun h15 => ?_⟩
      · refine hQ _ (by first | exact Or.inr ⟨rfl, by have z := c1 (by omega); omega⟩ | exact Or.inr ⟨rfl, by omega⟩ | exact Or.inl ⟨by omega, by omega, by have z := ct (by omega); have z2 := c2 (by omega); omega⟩) (by omega)
      · refine ⟨_, sn_V_fld.up (by decide), ?_⟩
        refine ⟨(a_ : Int), a_, (i : Int), i, rfl, (by omega), (by omega), ?_⟩
        intro v21o p21hv p21bhv2
        refine And.intro ⟨(by omega), (zRb rfl)⟩ ⟨fun h25 => ?_, fun h25 => ?_⟩
        · refine And.intro ⟨(zRb rfl), (by omega)⟩ ⟨fun h34 => ?_, fun h34 => ?_⟩
          · refine And.intro (by omega) ⟨fun h41 => ?_, fun h41 => ?_⟩
            · refine ⟨((6 - (i + 1)), 0, 0), zlt6 (by omega), [some (zvi (a_)), some (zvi (w)), some (zvi (b_)), some (zvi ((l + (-1)))), some (zvi ((i + 1)))], ⟨rfl, rfl, rfl, rfl, rfl, rfl⟩, (i + 1), (l + (-1)), rfl, rfl, rfl, rfl, rfl, rfl, rfl, (by omega), (by first | (have z := ct (by omega); omega) | (have z := cf (by omega); omega)), (by omega)⟩
            · refine hQ _ (by first | exact Or.inr ⟨rfl, by have z := c1 (by omega); omega⟩ | exact Or.inr ⟨rfl, by omega⟩ | exact Or.inl ⟨by omega, by omega, by have z := ct (by omega); have z2 := c2 (by omega); omega⟩) (by omega)
          · refine ⟨((6 - (i + 1)), 0, 0), zlt6 (by omega), [some (zvi (a_)), some (zvi (w)), some (zvi (b_)), some (zvi (l)), some (zvi ((i + 1)))], ⟨rfl, rfl, rfl, rfl, rfl, rfl⟩, (i + 1), l, rfl, rfl, rfl, rfl, rfl, rfl, rfl, (by omega), (by first | (have z := ct (by omega); omega) | (have z := cf (by omega); omega)), (by omega)⟩
        · refine And.intro ⟨(zRb rfl), (by omega)⟩ ⟨fun h34 => ?_, fun h34 => ?_⟩
          · refine And.intro (by omega) ⟨fun h41 => ?_, fun h41 => ?_⟩
            · refine ⟨((6 - (i + 1)), 0, 0), zlt6 (by omega), [some (zvi (a_)), some (zvi (w)), some (zvi (b_)), some (zvi ((l + (-1)))), some (zvi ((i + 1)))], ⟨rfl, rfl, rfl, rfl, rfl, rfl⟩, (i + 1), (l + (-1)), rfl, rfl, rfl, rfl, rfl, rfl, rfl, (by omega), (by first | (have z := ct (by omega); omega) | (have z := cf (by omega); omega)), (by omega)⟩
            · refine hQ _ (by first | exact Or.inr ⟨rfl, by have z := c1 (by omega); omega⟩ | exact Or.inr ⟨rfl, by omega⟩ | exact Or.inl ⟨by omega, by omega, by have z := ct (by omega); have z2 := c2 (by omega); omega⟩) (by omega)
          · refine ⟨((6 - (i + 1)), 0, 0), zlt6 (by omega), [some (zvi (a_)), some (zvi (w)), some (zvi (b_)), some (zvi (l)), some (zvi ((i + 1)))], ⟨rfl, rfl, rfl, rfl, rfl, rfl⟩, (i + 1), l, rfl, rfl, rfl, rfl, rfl, rfl, rfl, (by omega), (by first | (have z := ct (by omega); omega) | (have z := cf (by omega); omega)), (by omega)⟩)
def T_V_kind : ZT := fun args I L R S Q => ∃ (k : Nat) (O : OoS) (j : Int) (j_ : Nat), args = [zvr k, zvi j] ∧ (zSh S) ∧ (zRs R) ∧ (zDy zT20 zF20 k R S) ∧ (zOM k O I L) ∧ (oGd O) ∧ (j = j_ ∧ j_ < ocn O) ∧ ∀ (v : Int) (I' : ZI), (v = okd O j_) → (0 ≤ v ∧ v ≤ 9) → (I' k 0 = 0) → (∀ c j : Nat, ¬ (c = k ∧ j = 0) → I' c j = I c j) → Q (some (zvi (v))) I' L R S
theorem sn_V_kind : ZSnd 2 20 20 T_V_kind := ZSnd.of (zT20_20 1) (by
  rintro args I L R S Q hz ⟨k, O, j, j_, rfl, hS, hR, hD, hO, hG, hj, hQ⟩
  obtain ⟨o1, o2, o3, o4⟩ := id hO
  obtain ⟨g1, g2, g3, g4, g5⟩ := id hG
  have hk40 := hD.1
  refine And.intro rfl ?_
  refine And.intro (zDX hD 0 rfl) (Exists.intro _ (And.intro (zinl_ok (zT20_17 0)) (And.intro rfl ?_)))
  refine And.intro (by omega) ⟨(fun h1_3 => False.elim (by omega)), fun h1_3 => ?_⟩
  refine And.intro (zDX hD 0 rfl) (zrd (v := (ocn O)) o1 ?_)
  refine And.intro ⟨(by omega), (by omega)⟩ ⟨(fun h9_3 => False.elim (by omega)), fun h9_3 => ?_⟩
  refine And.intro (Or.inr rfl) ?_
  refine And.intro (zRb rfl) (zbf rfl ?_)
  refine And.intro (zDX hD 0 rfl) ⟨_, (zWi (zRb rfl)), ?_⟩
  refine And.intro (zDX hD 0 rfl) (zrd (v := 0) zxe ?_)
  refine And.intro (zRb rfl) (zbf rfl ?_)
  refine And.intro (zDX hD 0 rfl) (zrdR (v := some (k + 2)) (zDR hD 1 rfl) ?_)
  refine And.intro (zDP hD 2 rfl rfl (by omega) (by omega)) (fun v29 e29 r29 => ?_)
  have f29 : v29 = okd O j_ := (e29.trans (zxu (by omega) ((congrArg (I (k + 2)) (by omega)).trans (o2 j_ (by omega)).1)))
  refine hQ _ _ (by omega) (by have w := (g2 j_ (by omega)).1; omega) zxe (fun c j h0 => (zxcj h0 rfl)))
def T_V_par : ZT := fun args I L R S Q => ∃ (k : Nat) (O : OoS) (j : Int) (j_ : Nat), args = [zvr k, zvi j] ∧ (zSh S) ∧ (zRs R) ∧ (zDy zT20 zF20 k R S) ∧ (zOM k O I L) ∧ (oGd O) ∧ (j = j_ ∧ j_ < ocn O) ∧ ∀ (v : Int) (I' : ZI), (v = opa O j_) → (-1 ≤ v ∧ v + 1 ≤ j_) → (I' k 0 = 0) → (∀ c j : Nat, ¬ (c = k ∧ j = 0) → I' c j = I c j) → Q (some (zvi (v))) I' L R S
theorem sn_V_par : ZSnd 2 20 29 T_V_par := ZSnd.of (zT20_29 1) (by
  rintro args I L R S Q hz ⟨k, O, j, j_, rfl, hS, hR, hD, hO, hG, hj, hQ⟩
  obtain ⟨o1, o2, o3, o4⟩ := id hO
  obtain ⟨g1, g2, g3, g4, g5⟩ := id hG
  have hk40 := hD.1
  refine And.intro rfl ?_
  refine And.intro (zDX hD 0 rfl) (Exists.intro _ (And.intro (zinl_ok (zT20_17 0)) (And.intro rfl ?_)))
  refine And.intro (by omega) ⟨(fun h1_3 => False.elim (by omega)), fun h1_3 => ?_⟩
  refine And.intro (zDX hD 0 rfl) (zrd (v := (ocn O)) o1 ?_)
  refine And.intro ⟨(by omega), (by omega)⟩ ⟨(fun h9_3 => False.elim (by omega)), fun h9_3 => ?_⟩
  refine And.intro (Or.inr rfl) ?_
  refine And.intro (zRb rfl) (zbf rfl ?_)
  refine And.intro (zDX hD 0 rfl) ⟨_, (zWi (zRb rfl)), ?_⟩
  refine And.intro (zDX hD 0 rfl) (zrd (v := 0) zxe ?_)
  refine And.intro (zRb rfl) (zbf rfl ?_)
  refine And.intro (zDX hD 0 rfl) (zrdR (v := some (k + 3)) (zDR hD 2 rfl) ?_)
  refine And.intro (zDP hD 3 rfl rfl (by omega) (by omega)) (fun v29 e29 r29 => ?_)
  have f29 : v29 = opa O j_ := (e29.trans (zxu (by omega) ((congrArg (I (k + 3)) (by omega)).trans (o2 j_ (by omega)).2)))
  refine hQ _ _ (by omega) (by have w := (g2 j_ (by omega)).2.1; omega) zxe (fun c j h0 => (zxcj h0 rfl)))
def T_V_num : ZT := fun args I L R S Q => ∃ (k : Nat) (O : OoS) (j : Int) (j_ : Nat) (w : Int) (w_ : Nat), args = [zvr k, zvi j, zvi w] ∧ (zSh S) ∧ (zRs R) ∧ (zDy zT20 zF20 k R S) ∧ (zOM k O I L) ∧ (oGd O) ∧ (j = j_ ∧ j_ < ocn O) ∧ (w = w_ ∧ w_ < oCt (okd O j_).toNat 0) ∧ ∀ (v : Int) (I' : ZI), (v = onm O j_ w_) → (-1000000000 ≤ v ∧ v ≤ 1000000000) → (I' k 0 = 0) → (∀ c j : Nat, ¬ (c = k ∧ j = 0) → I' c j = I c j) → Q (some (zvl (v))) I' L R S
theorem sn_V_num : ZSnd 3 20 27 T_V_num := ZSnd.of (zT20_27 2) (by
  rintro args I L R S Q hz ⟨k, O, j, j_, w, w_, rfl, hS, hR, hD, hO, hG, hj, hw, hQ⟩
  obtain ⟨o1, o2, o3, o4⟩ := id hO
  obtain ⟨g1, g2, g3, g4, g5⟩ := id hG
  have hk40 := hD.1
  have hq := (oCi_q (okd O j_).toNat (by have w := (g2 j_ (by omega)).1; omega) 0 (by decide) 0 (by decide)).2.2
  refine And.intro rfl ?_
  refine And.intro (zDX hD 0 rfl) (Exists.intro _ (And.intro (zinl_ok (zT20_17 1)) (And.intro rfl ?_)))
  refine And.intro (by omega) ⟨(fun h1_3 => False.elim (by omega)), fun h1_3 => ?_⟩
  refine And.intro (zDX hD 0 rfl) (zrd (v := (ocn O)) o1 ?_)
  refine And.intro ⟨(by omega), (by omega)⟩ ⟨(fun h9_3 => False.elim (by omega)), fun h9_3 => ?_⟩
  refine And.intro (Or.inr rfl) ?_
  refine And.intro (zRb rfl) (zbf rfl ?_)
  refine And.intro (zDX hD 0 rfl) (zrdR (v := some (k + 2)) (zDR hD 1 rfl) ?_)
  refine And.intro (zDP hD 2 rfl rfl (by omega) (by omega)) (fun v14 e14 r14 => ?_)
  have f14 : v14 = okd O j_ := (e14.trans ((congrArg (I (k + 2)) (by omega)).trans (o2 j_ (by omega)).1))
  have f14b : 0 ≤ v14 ∧ v14 ≤ 9 := (by have w := (g2 j_ (by omega)).1; omega)
  refine ⟨_, sn_V_fof.up (by decide), ?_⟩
  refine ⟨(v14 : Int), (okd O j_).toNat, (w : Int), (0 : Int), 0, rfl, (by omega), (by omega), (by omega), ?_⟩
  intro v17o p17hv p17bhv2
  refine And.intro ⟨(by omega), (zRb rfl)⟩ ⟨fun h21 => ?_, fun h21 => ?_⟩
  · exact False.elim (by omega)
  · refine And.intro (zDX hD 0 rfl) ⟨_, (zWi (zRb rfl)), ?_⟩
    refine And.intro (zDX hD 0 rfl) (zrd (v := 0) zxe ?_)
    refine And.intro (zRb rfl) (zbf rfl ?_)
    refine And.intro (zDX hD 0 rfl) (zrdR (v := some (k + 4)) (zDR hD 3 rfl) ?_)
    refine And.intro (zDP hD 4 rfl rfl (by omega) (by omega)) (fun v48 e48 r48 => ?_)
    have f48 : v48 = onm O j_ w_ := (e48.trans ((congrArg (L (k + 4)) (by omega)).trans (o3 j_ w_ (by omega) (by omega))))
    refine hQ _ _ (by omega) (by have w := g3 j_ w_ (by omega) (by omega); have w2 : -1000000000 ≤ onm O j_ w_ := w.1; have w3 : onm O j_ w_ ≤ 1000000000 := w.2; omega) zxe (fun c j h0 => (zxcj h0 rfl)))
def T_V_tl : ZT := fun args I L R S Q => ∃ (k : Nat) (O : OoS) (j : Int) (j_ : Nat) (w : Int) (w_ : Nat) (i : Int), args = [zvr k, zvi j, zvi w, zvi i] ∧ (zSh S) ∧ (zRs R) ∧ (zDy zT20 zF20 k R S) ∧ (zOM k O I L) ∧ (oGd O) ∧ (j = j_ ∧ j_ < ocn O) ∧ (w = w_ ∧ w_ < 2 ∧ w_ < oCt (okd O j_).toNat 1) ∧ (okd O j_ ≠ 9) ∧ (i = -1) ∧ ∀ (v : Int) (I' : ZI), (v = otl O j_ w_) → (0 ≤ v ∧ v ≤ 40) → (I' k 0 = 0) → (∀ c j : Nat, ¬ (c = k ∧ j = 0) → I' c j = I c j) → Q (some (zvi (v))) I' L R S
theorem sn_V_tl : ZSnd 3 20 50 T_V_tl := ZSnd.of (zT20_50 2) (by
  rintro args I L R S Q hz ⟨k, O, j, j_, w, w_, i, rfl, hS, hR, hD, hO, hG, hj, hw, hk9, hi, hQ⟩
  obtain ⟨o1, o2, o3, o4⟩ := id hO
  obtain ⟨g1, g2, g3, g4, g5⟩ := id hG
  have hk40 := hD.1
  obtain ⟨l1, l2⟩ := o4 j_ w_ (by omega) hk9 (by omega)
  have l5 := (g4 j_ w_ (by omega) (by omega)).2 hk9
  refine And.intro rfl ?_
  refine And.intro (zDX hD 0 rfl) (Exists.intro _ (And.intro (zinl_ok (zT20_17 1)) (And.intro rfl ?_)))
  refine And.intro (by omega) ⟨(fun h1_2 => False.elim (by omega)), fun h1_2 => ?_⟩
  refine And.intro (zDX hD 0 rfl) (zrd (v := (ocn O)) o1 ?_)
  refine And.intro ⟨(by omega), (by omega)⟩ ⟨(fun h9_2 => False.elim (by omega)), fun h9_2 => ?_⟩
  refine And.intro (Or.inr rfl) ?_
  refine And.intro (zRb rfl) (zbf rfl ?_)
  refine And.intro (zDX hD 0 rfl) (zrdR (v := some (k + 2)) (zDR hD 1 rfl) ?_)
  refine And.intro (zDP hD 2 rfl rfl (by omega) (by omega)) (fun v13 e13 r13 => ?_)
  have f13 : v13 = okd O j_ := (e13.trans ((congrArg (I (k + 2)) (by omega)).trans (o2 j_ (by omega)).1))
  have f13b : 0 ≤ v13 ∧ v13 ≤ 9 := (by have w := (g2 j_ (by omega)).1; omega)
  refine ⟨_, sn_V_fof.up (by decide), ?_⟩
  refine ⟨(v13 : Int), (okd O j_).toNat, (w : Int), (1 : Int), 1, rfl, (by omega), (by omega), (by omega), ?_⟩
  intro v16o p16hv p16bhv2
  refine And.intro ⟨(by omega), (zRb rfl)⟩ ⟨fun h20 => ?_, fun h20 => ?_⟩
  · exact False.elim (by omega)
  · refine And.intro (zRb rfl) (zbf rfl ?_)
    refine And.intro ⟨(by omega), (zRb rfl)⟩ ⟨(fun h38 => False.elim (by omega)), fun h38 => ?_⟩
    refine And.intro (zDX hD 0 rfl) (zrdR (v := some (k + 5)) (zDR hD 4 rfl) ?_)
    refine And.intro (zDP hD 5 rfl rfl (by omega) (by omega)) (fun v51 e51 r51 => ?_)
    have f51 : v51 = otl O j_ w_ := (e51.trans ((congrArg (I (k + 5)) (by omega)).trans l1))
    refine And.intro ⟨(by omega), r51⟩ ⟨(fun h52 => False.elim (by omega)), fun h52 => ?_⟩
    refine And.intro (zDX hD 0 rfl) ⟨_, (zWi (zRb rfl)), ?_⟩
    refine And.intro (zDX hD 0 rfl) (zrd (v := 0) zxe ?_)
    refine And.intro (zRb rfl) (zbt rfl ?_)
    refine And.intro ⟨(by omega), (zRb rfl)⟩ ⟨(fun h74 => False.elim (by omega)), fun h74 => ?_⟩
    refine And.intro (zDX hD 0 rfl) (zrdR (v := some (k + 5)) (zDR hD 4 rfl) ?_)
    refine And.intro (zDP hD 5 rfl rfl (by omega) (by omega)) (fun v86 e86 r86 => ?_)
    have f86 : v86 = otl O j_ w_ := (e86.trans (zxu (by omega) ((congrArg (I (k + 5)) (by omega)).trans l1)))
    refine hQ _ _ (by omega) (by omega) zxe (fun c j h0 => (zxcj h0 rfl)))
def T_V_tt : ZT := fun args I L R S Q => ∃ (k : Nat) (O : OoS) (j : Int) (j_ : Nat) (w : Int) (w_ : Nat) (i : Int) (i_ : Nat), args = [zvr k, zvi j, zvi w, zvi i] ∧ (zSh S) ∧ (zRs R) ∧ (zDy zT20 zF20 k R S) ∧ (zOM k O I L) ∧ (oGd O) ∧ (j = j_ ∧ j_ < ocn O) ∧ (w = w_ ∧ w_ < 2 ∧ w_ < oCt (okd O j_).toNat 1) ∧ (okd O j_ ≠ 9) ∧ (i = i_ ∧ i_ < otl O j_ w_) ∧ ∀ (v : Int) (I' : ZI), (v = otc O j_ w_ i_) → (0 ≤ v ∧ v ≤ 126) → (I' k 0 = 0) → (∀ c j : Nat, ¬ (c = k ∧ j = 0) → I' c j = I c j) → Q (some (zvi (v))) I' L R S
theorem sn_V_tt : ZSnd 3 20 50 T_V_tt := ZSnd.of (zT20_50 2) (by
  rintro args I L R S Q hz ⟨k, O, j, j_, w, w_, i, i_, rfl, hS, hR, hD, hO, hG, hj, hw, hk9, hi, hQ⟩
  obtain ⟨o1, o2, o3, o4⟩ := id hO
  obtain ⟨g1, g2, g3, g4, g5⟩ := id hG
  have hk40 := hD.1
  obtain ⟨l1, l2⟩ := o4 j_ w_ (by omega) hk9 (by omega)
  have l5 := (g4 j_ w_ (by omega) (by omega)).2 hk9
  have l6 := g5 j_ w_ i_ (by omega) (by omega) (by omega)
  refine And.intro rfl ?_
  refine And.intro (zDX hD 0 rfl) (Exists.intro _ (And.intro (zinl_ok (zT20_17 1)) (And.intro rfl ?_)))
  refine And.intro (by omega) ⟨(fun h1_2 => False.elim (by omega)), fun h1_2 => ?_⟩
  refine And.intro (zDX hD 0 rfl) (zrd (v := (ocn O)) o1 ?_)
  refine And.intro ⟨(by omega), (by omega)⟩ ⟨(fun h9_2 => False.elim (by omega)), fun h9_2 => ?_⟩
  refine And.intro (Or.inr rfl) ?_
  refine And.intro (zRb rfl) (zbf rfl ?_)
  refine And.intro (zDX hD 0 rfl) (zrdR (v := some (k + 2)) (zDR hD 1 rfl) ?_)
  refine And.intro (zDP hD 2 rfl rfl (by omega) (by omega)) (fun v13 e13 r13 => ?_)
  have f13 : v13 = okd O j_ := (e13.trans ((congrArg (I (k + 2)) (by omega)).trans (o2 j_ (by omega)).1))
  have f13b : 0 ≤ v13 ∧ v13 ≤ 9 := (by have w := (g2 j_ (by omega)).1; omega)
  refine ⟨_, sn_V_fof.up (by decide), ?_⟩
  refine ⟨(v13 : Int), (okd O j_).toNat, (w : Int), (1 : Int), 1, rfl, (by omega), (by omega), (by omega), ?_⟩
  intro v16o p16hv p16bhv2
  refine And.intro ⟨(by omega), (zRb rfl)⟩ ⟨fun h20 => ?_, fun h20 => ?_⟩
  · exact False.elim (by omega)
  · refine And.intro (zRb rfl) (zbf rfl ?_)
    refine And.intro ⟨(by omega), (zRb rfl)⟩ ⟨(fun h38 => False.elim (by omega)), fun h38 => ?_⟩
    refine And.intro (zDX hD 0 rfl) (zrdR (v := some (k + 5)) (zDR hD 4 rfl) ?_)
    refine And.intro (zDP hD 5 rfl rfl (by omega) (by omega)) (fun v51 e51 r51 => ?_)
    have f51 : v51 = otl O j_ w_ := (e51.trans ((congrArg (I (k + 5)) (by omega)).trans l1))
    refine And.intro ⟨(by omega), r51⟩ ⟨(fun h52 => False.elim (by omega)), fun h52 => ?_⟩
    refine And.intro (zDX hD 0 rfl) ⟨_, (zWi (zRb rfl)), ?_⟩
    refine And.intro (zDX hD 0 rfl) (zrd (v := 0) zxe ?_)
    refine And.intro (zRb rfl) (zbt rfl ?_)
    refine And.intro ⟨(by omega), (zRb rfl)⟩ ⟨fun h74 => ?_, (fun h74 => False.elim (by omega))⟩
    refine And.intro (zDX hD 0 rfl) (zrdR (v := some (k + 6)) (zDR hD 5 rfl) ?_)
    refine And.intro (zDP hD 6 rfl rfl (by omega) (by omega)) (fun v105 e105 r105 => ?_)
    have f105 : v105 = otc O j_ w_ i_ := (e105.trans (zxu (by omega) ((congrArg (I (k + 6)) (by omega)).trans (l2 i_ (by omega)))))
    have f105b : 0 ≤ v105 ∧ v105 ≤ 126 := (by omega)
    refine hQ _ _ (by omega) (by omega) zxe (fun c j h0 => (zxcj h0 rfl)))
