/-! yv -/
def T_Y_rul : ZT := fun args I L R S Q => ∃ (nr : Nat) (rf : Nat → Nat → Int) (kd : Int) (a : Int) (b : Int) (u : Int), args = [zvr 165, zvi kd, zvi a, zvi b, zvi u] ∧ (zSh S) ∧ (zRs R) ∧ (zMR nr rf I) ∧ (r32 kd ∧ r32 a ∧ r32 b ∧ r32 u) ∧ ∀ (v : Int) (I' : ZI), (v = if 0 ≤ (ruV nr kd a b u) then (ruV nr kd a b u) else -1) → (I' 165 0 = if 0 ≤ (ruV nr kd a b u) then 0 else -(ruV nr kd a b u)) → (zMR (ruN nr kd a b u) (ruF nr rf kd a b u) I') → (∀ c j : Nat, ¬ (c = 165 ∧ j = 0) → ¬ (c = 165 ∧ j = 24) → ¬ c = 204 → ¬ c = 205 → ¬ c = 206 → ¬ c = 207 → I' c j = I c j) → Q (some (zvi (v))) I' L R S
theorem sn_Y_rul : ZSnd 2 21 58 T_Y_rul := ZSnd.of (zT21_58 1) (by
  rintro args I L R S Q hz ⟨nr, rf, kd, a, b, u, rfl, hS, hR, hMR, hr, hQ⟩
  have hnr := hMR.1.1
  have hn30 := hMR.1.2
  refine And.intro rfl ?_
  refine And.intro ⟨(by omega), (zRb rfl)⟩ ⟨fun h2 => ?_, fun h2 => ?_⟩
  · refine And.intro (by omega) ⟨fun h28 => ?_, fun h28 => ?_⟩
    · refine And.intro (zA_165 hS) (Exists.intro _ (And.intro (zinl_ok (zT21_47 0)) (And.intro rfl ?_)))
      refine And.intro (zA_165 hS) ⟨_, (zWi (zRb rfl)), ?_⟩
      refine hQ _ _ (by first | exact (ruV_n (rf := rf) (show ¬ ruOk kd a b u by unfold ruOk; omega)).1.symm | exact (ruV_f (rf := rf) (show ruOk kd a b u by unfold ruOk; omega) (by omega)).1.symm | exact Eq.trans (by omega) (ruV_y (rf := rf) (show ruOk kd a b u by unfold ruOk; omega) (by omega)).1.symm) (by first | exact zxe.trans (ruV_n (rf := rf) (show ¬ ruOk kd a b u by unfold ruOk; omega)).2.1.symm | exact zxe.trans (ruV_f (rf := rf) (show ruOk kd a b u by unfold ruOk; omega) (by omega)).2.1.symm | exact zxe.trans (ruV_y (rf := rf) (show ruOk kd a b u by unfold ruOk; omega) (by omega)).2.1.symm) ?_ (fun c j h0 h1 h2 h3 h4 h5 => (zxcj h0 rfl))
      · have stay : ∀ {I' : ZI}, ruN nr kd a b u = nr → ruF nr rf kd a b u = rf → (∀ c j : Nat, (c = 165 ∧ j = 24) ∨ (204 ≤ c ∧ c ≤ 207) → I' c j = I c j) → zMR (ruN nr kd a b u) (ruF nr rf kd a b u) I' := fun e1 e2 hf => by rw [e1, e2]; exact zMR_fr hMR hf
        first
        | exact stay (ruV_n (rf := rf) (show ¬ ruOk kd a b u by unfold ruOk; omega)).2.2.1 (ruV_n (rf := rf) (show ¬ ruOk kd a b u by unfold ruOk; omega)).2.2.2 (fun c j h => zxcj (by omega) rfl)
        | exact stay (ruV_f (rf := rf) (show ruOk kd a b u by unfold ruOk; omega) (by omega)).2.2.1 (ruV_f (rf := rf) (show ruOk kd a b u by unfold ruOk; omega) (by omega)).2.2.2 (fun c j h => zxcj (by omega) rfl)
        | (refine zMR_a hMR (show ruOk kd a b u by unfold ruOk; omega) (by omega) (zxs (by decide) (zxe.trans (by omega))) ⟨?_, ?_, ?_, ?_⟩ ?_
           · repeat (first | exact zxe' (by omega) | refine zxu (by decide) ?_)
           · repeat (first | exact zxe' (by omega) | refine zxu (by decide) ?_)
           · repeat (first | exact zxe' (by omega) | refine zxu (by decide) ?_)
           · repeat (first | exact zxe' (by omega) | refine zxu (by decide) ?_)
           · intro c j h1 h2
             repeat (first | exact rfl | refine zxcj (by omega) ?_))
    · refine And.intro ⟨(by omega), (zRb rfl)⟩ ⟨fun h33 => ?_, fun h33 => ?_⟩
      · refine And.intro (zA_165 hS) (Exists.intro _ (And.intro (zinl_ok (zT21_47 0)) (And.intro rfl ?_)))
        refine And.intro (zA_165 hS) ⟨_, (zWi (zRb rfl)), ?_⟩
        refine hQ _ _ (by first | exact (ruV_n (rf := rf) (show ¬ ruOk kd a b u by unfold ruOk; omega)).1.symm | exact (ruV_f (rf := rf) (show ruOk kd a b u by unfold ruOk; omega) (by omega)).1.symm | exact Eq.trans (by omega) (ruV_y (rf := rf) (show ruOk kd a b u by unfold ruOk; omega) (by omega)).1.symm) (by first | exact zxe.trans (ruV_n (rf := rf) (show ¬ ruOk kd a b u by unfold ruOk; omega)).2.1.symm | exact zxe.trans (ruV_f (rf := rf) (show ruOk kd a b u by unfold ruOk; omega) (by omega)).2.1.symm | exact zxe.trans (ruV_y (rf := rf) (show ruOk kd a b u by unfold ruOk; omega) (by omega)).2.1.symm) ?_ (fun c j h0 h1 h2 h3 h4 h5 => (zxcj h0 rfl))
        · have stay : ∀ {I' : ZI}, ruN nr kd a b u = nr → ruF nr rf kd a b u = rf → (∀ c j : Nat, (c = 165 ∧ j = 24) ∨ (204 ≤ c ∧ c ≤ 207) → I' c j = I c j) → zMR (ruN nr kd a b u) (ruF nr rf kd a b u) I' := fun e1 e2 hf => by rw [e1, e2]; exact zMR_fr hMR hf
          first
          | exact stay (ruV_n (rf := rf) (show ¬ ruOk kd a b u by unfold ruOk; omega)).2.2.1 (ruV_n (rf := rf) (show ¬ ruOk kd a b u by unfold ruOk; omega)).2.2.2 (fun c j h => zxcj (by omega) rfl)
          | exact stay (ruV_f (rf := rf) (show ruOk kd a b u by unfold ruOk; omega) (by omega)).2.2.1 (ruV_f (rf := rf) (show ruOk kd a b u by unfold ruOk; omega) (by omega)).2.2.2 (fun c j h => zxcj (by omega) rfl)
          | (refine zMR_a hMR (show ruOk kd a b u by unfold ruOk; omega) (by omega) (zxs (by decide) (zxe.trans (by omega))) ⟨?_, ?_, ?_, ?_⟩ ?_
             · repeat (first | exact zxe' (by omega) | refine zxu (by decide) ?_)
             · repeat (first | exact zxe' (by omega) | refine zxu (by decide) ?_)
             · repeat (first | exact zxe' (by omega) | refine zxu (by decide) ?_)
             · repeat (first | exact zxe' (by omega) | refine zxu (by decide) ?_)
             · intro c j h1 h2
               repeat (first | exact rfl | refine zxcj (by omega) ?_))
      · refine And.intro (zRb rfl) (zbt rfl ?_)
        refine And.intro (zA_165 hS) (Exists.intro _ (And.intro (zinl_ok (zT21_47 0)) (And.intro rfl ?_)))
        refine And.intro (zA_165 hS) ⟨_, (zWi (zRb rfl)), ?_⟩
        refine hQ _ _ (by first | exact (ruV_n (rf := rf) (show ¬ ruOk kd a b u by unfold ruOk; omega)).1.symm | exact (ruV_f (rf := rf) (show ruOk kd a b u by unfold ruOk; omega) (by omega)).1.symm | exact Eq.trans (by omega) (ruV_y (rf := rf) (show ruOk kd a b u by unfold ruOk; omega) (by omega)).1.symm) (by first | exact zxe.trans (ruV_n (rf := rf) (show ¬ ruOk kd a b u by unfold ruOk; omega)).2.1.symm | exact zxe.trans (ruV_f (rf := rf) (show ruOk kd a b u by unfold ruOk; omega) (by omega)).2.1.symm | exact zxe.trans (ruV_y (rf := rf) (show ruOk kd a b u by unfold ruOk; omega) (by omega)).2.1.symm) ?_ (fun c j h0 h1 h2 h3 h4 h5 => (zxcj h0 rfl))
        · have stay : ∀ {I' : ZI}, ruN nr kd a b u = nr → ruF nr rf kd a b u = rf → (∀ c j : Nat, (c = 165 ∧ j = 24) ∨ (204 ≤ c ∧ c ≤ 207) → I' c j = I c j) → zMR (ruN nr kd a b u) (ruF nr rf kd a b u) I' := fun e1 e2 hf => by rw [e1, e2]; exact zMR_fr hMR hf
          first
          | exact stay (ruV_n (rf := rf) (show ¬ ruOk kd a b u by unfold ruOk; omega)).2.2.1 (ruV_n (rf := rf) (show ¬ ruOk kd a b u by unfold ruOk; omega)).2.2.2 (fun c j h => zxcj (by omega) rfl)
          | exact stay (ruV_f (rf := rf) (show ruOk kd a b u by unfold ruOk; omega) (by omega)).2.2.1 (ruV_f (rf := rf) (show ruOk kd a b u by unfold ruOk; omega) (by omega)).2.2.2 (fun c j h => zxcj (by omega) rfl)
          | (refine zMR_a hMR (show ruOk kd a b u by unfold ruOk; omega) (by omega) (zxs (by decide) (zxe.trans (by omega))) ⟨?_, ?_, ?_, ?_⟩ ?_
             · repeat (first | exact zxe' (by omega) | refine zxu (by decide) ?_)
             · repeat (first | exact zxe' (by omega) | refine zxu (by decide) ?_)
             · repeat (first | exact zxe' (by omega) | refine zxu (by decide) ?_)
             · repeat (first | exact zxe' (by omega) | refine zxu (by decide) ?_)
             · intro c j h1 h2
               repeat (first | exact rfl | refine zxcj (by omega) ?_))
  · refine And.intro ⟨(by omega), (zRb rfl)⟩ ⟨fun h7 => ?_, fun h7 => ?_⟩
    · refine And.intro (by omega) ⟨fun h28 => ?_, fun h28 => ?_⟩
      · refine And.intro (zA_165 hS) (Exists.intro _ (And.intro (zinl_ok (zT21_47 0)) (And.intro rfl ?_)))
        refine And.intro (zA_165 hS) ⟨_, (zWi (zRb rfl)), ?_⟩
        refine hQ _ _ (by first | exact (ruV_n (rf := rf) (show ¬ ruOk kd a b u by unfold ruOk; omega)).1.symm | exact (ruV_f (rf := rf) (show ruOk kd a b u by unfold ruOk; omega) (by omega)).1.symm | exact Eq.trans (by omega) (ruV_y (rf := rf) (show ruOk kd a b u by unfold ruOk; omega) (by omega)).1.symm) (by first | exact zxe.trans (ruV_n (rf := rf) (show ¬ ruOk kd a b u by unfold ruOk; omega)).2.1.symm | exact zxe.trans (ruV_f (rf := rf) (show ruOk kd a b u by unfold ruOk; omega) (by omega)).2.1.symm | exact zxe.trans (ruV_y (rf := rf) (show ruOk kd a b u by unfold ruOk; omega) (by omega)).2.1.symm) ?_ (fun c j h0 h1 h2 h3 h4 h5 => (zxcj h0 rfl))
        · have stay : ∀ {I' : ZI}, ruN nr kd a b u = nr → ruF nr rf kd a b u = rf → (∀ c j : Nat, (c = 165 ∧ j = 24) ∨ (204 ≤ c ∧ c ≤ 207) → I' c j = I c j) → zMR (ruN nr kd a b u) (ruF nr rf kd a b u) I' := fun e1 e2 hf => by rw [e1, e2]; exact zMR_fr hMR hf
          first
          | exact stay (ruV_n (rf := rf) (show ¬ ruOk kd a b u by unfold ruOk; omega)).2.2.1 (ruV_n (rf := rf) (show ¬ ruOk kd a b u by unfold ruOk; omega)).2.2.2 (fun c j h => zxcj (by omega) rfl)
          | exact stay (ruV_f (rf := rf) (show ruOk kd a b u by unfold ruOk; omega) (by omega)).2.2.1 (ruV_f (rf := rf) (show ruOk kd a b u by unfold ruOk; omega) (by omega)).2.2.2 (fun c j h => zxcj (by omega) rfl)
          | (refine zMR_a hMR (show ruOk kd a b u by unfold ruOk; omega) (by omega) (zxs (by decide) (zxe.trans (by omega))) ⟨?_, ?_, ?_, ?_⟩ ?_
             · repeat (first | exact zxe' (by omega) | refine zxu (by decide) ?_)
             · repeat (first | exact zxe' (by omega) | refine zxu (by decide) ?_)
             · repeat (first | exact zxe' (by omega) | refine zxu (by decide) ?_)
             · repeat (first | exact zxe' (by omega) | refine zxu (by decide) ?_)
             · intro c j h1 h2
               repeat (first | exact rfl | refine zxcj (by omega) ?_))
      · refine And.intro ⟨(by omega), (zRb rfl)⟩ ⟨fun h33 => ?_, fun h33 => ?_⟩
        · refine And.intro (zA_165 hS) (Exists.intro _ (And.intro (zinl_ok (zT21_47 0)) (And.intro rfl ?_)))
          refine And.intro (zA_165 hS) ⟨_, (zWi (zRb rfl)), ?_⟩
          refine hQ _ _ (by first | exact (ruV_n (rf := rf) (show ¬ ruOk kd a b u by unfold ruOk; omega)).1.symm | exact (ruV_f (rf := rf) (show ruOk kd a b u by unfold ruOk; omega) (by omega)).1.symm | exact Eq.trans (by omega) (ruV_y (rf := rf) (show ruOk kd a b u by unfold ruOk; omega) (by omega)).1.symm) (by first | exact zxe.trans (ruV_n (rf := rf) (show ¬ ruOk kd a b u by unfold ruOk; omega)).2.1.symm | exact zxe.trans (ruV_f (rf := rf) (show ruOk kd a b u by unfold ruOk; omega) (by omega)).2.1.symm | exact zxe.trans (ruV_y (rf := rf) (show ruOk kd a b u by unfold ruOk; omega) (by omega)).2.1.symm) ?_ (fun c j h0 h1 h2 h3 h4 h5 => (zxcj h0 rfl))
          · have stay : ∀ {I' : ZI}, ruN nr kd a b u = nr → ruF nr rf kd a b u = rf → (∀ c j : Nat, (c = 165 ∧ j = 24) ∨ (204 ≤ c ∧ c ≤ 207) → I' c j = I c j) → zMR (ruN nr kd a b u) (ruF nr rf kd a b u) I' := fun e1 e2 hf => by rw [e1, e2]; exact zMR_fr hMR hf
            first
            | exact stay (ruV_n (rf := rf) (show ¬ ruOk kd a b u by unfold ruOk; omega)).2.2.1 (ruV_n (rf := rf) (show ¬ ruOk kd a b u by unfold ruOk; omega)).2.2.2 (fun c j h => zxcj (by omega) rfl)
            | exact stay (ruV_f (rf := rf) (show ruOk kd a b u by unfold ruOk; omega) (by omega)).2.2.1 (ruV_f (rf := rf) (show ruOk kd a b u by unfold ruOk; omega) (by omega)).2.2.2 (fun c j h => zxcj (by omega) rfl)
            | (refine zMR_a hMR (show ruOk kd a b u by unfold ruOk; omega) (by omega) (zxs (by decide) (zxe.trans (by omega))) ⟨?_, ?_, ?_, ?_⟩ ?_
               · repeat (first | exact zxe' (by omega) | refine zxu (by decide) ?_)
               · repeat (first | exact zxe' (by omega) | refine zxu (by decide) ?_)
               · repeat (first | exact zxe' (by omega) | refine zxu (by decide) ?_)
               · repeat (first | exact zxe' (by omega) | refine zxu (by decide) ?_)
               · intro c j h1 h2
                 repeat (first | exact rfl | refine zxcj (by omega) ?_))
        · refine And.intro (zRb rfl) (zbt rfl ?_)
          refine And.intro (zA_165 hS) (Exists.intro _ (And.intro (zinl_ok (zT21_47 0)) (And.intro rfl ?_)))
          refine And.intro (zA_165 hS) ⟨_, (zWi (zRb rfl)), ?_⟩
          refine hQ _ _ (by first | exact (ruV_n (rf := rf) (show ¬ ruOk kd a b u by unfold ruOk; omega)).1.symm | exact (ruV_f (rf := rf) (show ruOk kd a b u by unfold ruOk; omega) (by omega)).1.symm | exact Eq.trans (by omega) (ruV_y (rf := rf) (show ruOk kd a b u by unfold ruOk; omega) (by omega)).1.symm) (by first | exact zxe.trans (ruV_n (rf := rf) (show ¬ ruOk kd a b u by unfold ruOk; omega)).2.1.symm | exact zxe.trans (ruV_f (rf := rf) (show ruOk kd a b u by unfold ruOk; omega) (by omega)).2.1.symm | exact zxe.trans (ruV_y (rf := rf) (show ruOk kd a b u by unfold ruOk; omega) (by omega)).2.1.symm) ?_ (fun c j h0 h1 h2 h3 h4 h5 => (zxcj h0 rfl))
          · have stay : ∀ {I' : ZI}, ruN nr kd a b u = nr → ruF nr rf kd a b u = rf → (∀ c j : Nat, (c = 165 ∧ j = 24) ∨ (204 ≤ c ∧ c ≤ 207) → I' c j = I c j) → zMR (ruN nr kd a b u) (ruF nr rf kd a b u) I' := fun e1 e2 hf => by rw [e1, e2]; exact zMR_fr hMR hf
            first
            | exact stay (ruV_n (rf := rf) (show ¬ ruOk kd a b u by unfold ruOk; omega)).2.2.1 (ruV_n (rf := rf) (show ¬ ruOk kd a b u by unfold ruOk; omega)).2.2.2 (fun c j h => zxcj (by omega) rfl)
            | exact stay (ruV_f (rf := rf) (show ruOk kd a b u by unfold ruOk; omega) (by omega)).2.2.1 (ruV_f (rf := rf) (show ruOk kd a b u by unfold ruOk; omega) (by omega)).2.2.2 (fun c j h => zxcj (by omega) rfl)
            | (refine zMR_a hMR (show ruOk kd a b u by unfold ruOk; omega) (by omega) (zxs (by decide) (zxe.trans (by omega))) ⟨?_, ?_, ?_, ?_⟩ ?_
               · repeat (first | exact zxe' (by omega) | refine zxu (by decide) ?_)
               · repeat (first | exact zxe' (by omega) | refine zxu (by decide) ?_)
               · repeat (first | exact zxe' (by omega) | refine zxu (by decide) ?_)
               · repeat (first | exact zxe' (by omega) | refine zxu (by decide) ?_)
               · intro c j h1 h2
                 repeat (first | exact rfl | refine zxcj (by omega) ?_))
    · refine And.intro ⟨(by omega), (zRb rfl)⟩ ⟨fun h12 => ?_, fun h12 => ?_⟩
      · refine And.intro (by omega) ⟨fun h28 => ?_, fun h28 => ?_⟩
        · refine And.intro (zA_165 hS) (Exists.intro _ (And.intro (zinl_ok (zT21_47 0)) (And.intro rfl ?_)))
          refine And.intro (zA_165 hS) ⟨_, (zWi (zRb rfl)), ?_⟩
          refine hQ _ _ (by first | exact (ruV_n (rf := rf) (show ¬ ruOk kd a b u by unfold ruOk; omega)).1.symm | exact (ruV_f (rf := rf) (show ruOk kd a b u by unfold ruOk; omega) (by omega)).1.symm | exact Eq.trans (by omega) (ruV_y (rf := rf) (show ruOk kd a b u by unfold ruOk; omega) (by omega)).1.symm) (by first | exact zxe.trans (ruV_n (rf := rf) (show ¬ ruOk kd a b u by unfold ruOk; omega)).2.1.symm | exact zxe.trans (ruV_f (rf := rf) (show ruOk kd a b u by unfold ruOk; omega) (by omega)).2.1.symm | exact zxe.trans (ruV_y (rf := rf) (show ruOk kd a b u by unfold ruOk; omega) (by omega)).2.1.symm) ?_ (fun c j h0 h1 h2 h3 h4 h5 => (zxcj h0 rfl))
          · have stay : ∀ {I' : ZI}, ruN nr kd a b u = nr → ruF nr rf kd a b u = rf → (∀ c j : Nat, (c = 165 ∧ j = 24) ∨ (204 ≤ c ∧ c ≤ 207) → I' c j = I c j) → zMR (ruN nr kd a b u) (ruF nr rf kd a b u) I' := fun e1 e2 hf => by rw [e1, e2]; exact zMR_fr hMR hf
            first
            | exact stay (ruV_n (rf := rf) (show ¬ ruOk kd a b u by unfold ruOk; omega)).2.2.1 (ruV_n (rf := rf) (show ¬ ruOk kd a b u by unfold ruOk; omega)).2.2.2 (fun c j h => zxcj (by omega) rfl)
            | exact stay (ruV_f (rf := rf) (show ruOk kd a b u by unfold ruOk; omega) (by omega)).2.2.1 (ruV_f (rf := rf) (show ruOk kd a b u by unfold ruOk; omega) (by omega)).2.2.2 (fun c j h => zxcj (by omega) rfl)
            | (refine zMR_a hMR (show ruOk kd a b u by unfold ruOk; omega) (by omega) (zxs (by decide) (zxe.trans (by omega))) ⟨?_, ?_, ?_, ?_⟩ ?_
               · repeat (first | exact zxe' (by omega) | refine zxu (by decide) ?_)
               · repeat (first | exact zxe' (by omega) | refine zxu (by decide) ?_)
               · repeat (first | exact zxe' (by omega) | refine zxu (by decide) ?_)
               · repeat (first | exact zxe' (by omega) | refine zxu (by decide) ?_)
               · intro c j h1 h2
                 repeat (first | exact rfl | refine zxcj (by omega) ?_))
        · refine And.intro ⟨(by omega), (zRb rfl)⟩ ⟨fun h33 => ?_, fun h33 => ?_⟩
          · refine And.intro (zA_165 hS) (Exists.intro _ (And.intro (zinl_ok (zT21_47 0)) (And.intro rfl ?_)))
            refine And.intro (zA_165 hS) ⟨_, (zWi (zRb rfl)), ?_⟩
            refine hQ _ _ (by first | exact (ruV_n (rf := rf) (show ¬ ruOk kd a b u by unfold ruOk; omega)).1.symm | exact (ruV_f (rf := rf) (show ruOk kd a b u by unfold ruOk; omega) (by omega)).1.symm | exact Eq.trans (by omega) (ruV_y (rf := rf) (show ruOk kd a b u by unfold ruOk; omega) (by omega)).1.symm) (by first | exact zxe.trans (ruV_n (rf := rf) (show ¬ ruOk kd a b u by unfold ruOk; omega)).2.1.symm | exact zxe.trans (ruV_f (rf := rf) (show ruOk kd a b u by unfold ruOk; omega) (by omega)).2.1.symm | exact zxe.trans (ruV_y (rf := rf) (show ruOk kd a b u by unfold ruOk; omega) (by omega)).2.1.symm) ?_ (fun c j h0 h1 h2 h3 h4 h5 => (zxcj h0 rfl))
            · have stay : ∀ {I' : ZI}, ruN nr kd a b u = nr → ruF nr rf kd a b u = rf → (∀ c j : Nat, (c = 165 ∧ j = 24) ∨ (204 ≤ c ∧ c ≤ 207) → I' c j = I c j) → zMR (ruN nr kd a b u) (ruF nr rf kd a b u) I' := fun e1 e2 hf => by rw [e1, e2]; exact zMR_fr hMR hf
              first
              | exact stay (ruV_n (rf := rf) (show ¬ ruOk kd a b u by unfold ruOk; omega)).2.2.1 (ruV_n (rf := rf) (show ¬ ruOk kd a b u by unfold ruOk; omega)).2.2.2 (fun c j h => zxcj (by omega) rfl)
              | exact stay (ruV_f (rf := rf) (show ruOk kd a b u by unfold ruOk; omega) (by omega)).2.2.1 (ruV_f (rf := rf) (show ruOk kd a b u by unfold ruOk; omega) (by omega)).2.2.2 (fun c j h => zxcj (by omega) rfl)
              | (refine zMR_a hMR (show ruOk kd a b u by unfold ruOk; omega) (by omega) (zxs (by decide) (zxe.trans (by omega))) ⟨?_, ?_, ?_, ?_⟩ ?_
                 · repeat (first | exact zxe' (by omega) | refine zxu (by decide) ?_)
                 · repeat (first | exact zxe' (by omega) | refine zxu (by decide) ?_)
                 · repeat (first | exact zxe' (by omega) | refine zxu (by decide) ?_)
                 · repeat (first | exact zxe' (by omega) | refine zxu (by decide) ?_)
                 · intro c j h1 h2
                   repeat (first | exact rfl | refine zxcj (by omega) ?_))
          · refine And.intro (zRb rfl) (zbt rfl ?_)
            refine And.intro (zA_165 hS) (Exists.intro _ (And.intro (zinl_ok (zT21_47 0)) (And.intro rfl ?_)))
            refine And.intro (zA_165 hS) ⟨_, (zWi (zRb rfl)), ?_⟩
            refine hQ _ _ (by first | exact (ruV_n (rf := rf) (show ¬ ruOk kd a b u by unfold ruOk; omega)).1.symm | exact (ruV_f (rf := rf) (show ruOk kd a b u by unfold ruOk; omega) (by omega)).1.symm | exact Eq.trans (by omega) (ruV_y (rf := rf) (show ruOk kd a b u by unfold ruOk; omega) (by omega)).1.symm) (by first | exact zxe.trans (ruV_n (rf := rf) (show ¬ ruOk kd a b u by unfold ruOk; omega)).2.1.symm | exact zxe.trans (ruV_f (rf := rf) (show ruOk kd a b u by unfold ruOk; omega) (by omega)).2.1.symm | exact zxe.trans (ruV_y (rf := rf) (show ruOk kd a b u by unfold ruOk; omega) (by omega)).2.1.symm) ?_ (fun c j h0 h1 h2 h3 h4 h5 => (zxcj h0 rfl))
            · have stay : ∀ {I' : ZI}, ruN nr kd a b u = nr → ruF nr rf kd a b u = rf → (∀ c j : Nat, (c = 165 ∧ j = 24) ∨ (204 ≤ c ∧ c ≤ 207) → I' c j = I c j) → zMR (ruN nr kd a b u) (ruF nr rf kd a b u) I' := fun e1 e2 hf => by rw [e1, e2]; exact zMR_fr hMR hf
              first
              | exact stay (ruV_n (rf := rf) (show ¬ ruOk kd a b u by unfold ruOk; omega)).2.2.1 (ruV_n (rf := rf) (show ¬ ruOk kd a b u by unfold ruOk; omega)).2.2.2 (fun c j h => zxcj (by omega) rfl)
              | exact stay (ruV_f (rf := rf) (show ruOk kd a b u by unfold ruOk; omega) (by omega)).2.2.1 (ruV_f (rf := rf) (show ruOk kd a b u by unfold ruOk; omega) (by omega)).2.2.2 (fun c j h => zxcj (by omega) rfl)
              | (refine zMR_a hMR (show ruOk kd a b u by unfold ruOk; omega) (by omega) (zxs (by decide) (zxe.trans (by omega))) ⟨?_, ?_, ?_, ?_⟩ ?_
                 · repeat (first | exact zxe' (by omega) | refine zxu (by decide) ?_)
                 · repeat (first | exact zxe' (by omega) | refine zxu (by decide) ?_)
                 · repeat (first | exact zxe' (by omega) | refine zxu (by decide) ?_)
                 · repeat (first | exact zxe' (by omega) | refine zxu (by decide) ?_)
                 · intro c j h1 h2
                   repeat (first | exact rfl | refine zxcj (by omega) ?_))
      · refine And.intro ⟨(by omega), (zRb rfl)⟩ ⟨fun h17 => ?_, fun h17 => ?_⟩
        · refine And.intro (by omega) ⟨fun h28 => ?_, fun h28 => ?_⟩
          · refine And.intro (zA_165 hS) (Exists.intro _ (And.intro (zinl_ok (zT21_47 0)) (And.intro rfl ?_)))
            refine And.intro (zA_165 hS) ⟨_, (zWi (zRb rfl)), ?_⟩
            refine hQ _ _ (by first | exact (ruV_n (rf := rf) (show ¬ ruOk kd a b u by unfold ruOk; omega)).1.symm | exact (ruV_f (rf := rf) (show ruOk kd a b u by unfold ruOk; omega) (by omega)).1.symm | exact Eq.trans (by omega) (ruV_y (rf := rf) (show ruOk kd a b u by unfold ruOk; omega) (by omega)).1.symm) (by first | exact zxe.trans (ruV_n (rf := rf) (show ¬ ruOk kd a b u by unfold ruOk; omega)).2.1.symm | exact zxe.trans (ruV_f (rf := rf) (show ruOk kd a b u by unfold ruOk; omega) (by omega)).2.1.symm | exact zxe.trans (ruV_y (rf := rf) (show ruOk kd a b u by unfold ruOk; omega) (by omega)).2.1.symm) ?_ (fun c j h0 h1 h2 h3 h4 h5 => (zxcj h0 rfl))
            · have stay : ∀ {I' : ZI}, ruN nr kd a b u = nr → ruF nr rf kd a b u = rf → (∀ c j : Nat, (c = 165 ∧ j = 24) ∨ (204 ≤ c ∧ c ≤ 207) → I' c j = I c j) → zMR (ruN nr kd a b u) (ruF nr rf kd a b u) I' := fun e1 e2 hf => by rw [e1, e2]; exact zMR_fr hMR hf
              first
              | exact stay (ruV_n (rf := rf) (show ¬ ruOk kd a b u by unfold ruOk; omega)).2.2.1 (ruV_n (rf := rf) (show ¬ ruOk kd a b u by unfold ruOk; omega)).2.2.2 (fun c j h => zxcj (by omega) rfl)
              | exact stay (ruV_f (rf := rf) (show ruOk kd a b u by unfold ruOk; omega) (by omega)).2.2.1 (ruV_f (rf := rf) (show ruOk kd a b u by unfold ruOk; omega) (by omega)).2.2.2 (fun c j h => zxcj (by omega) rfl)
              | (refine zMR_a hMR (show ruOk kd a b u by unfold ruOk; omega) (by omega) (zxs (by decide) (zxe.trans (by omega))) ⟨?_, ?_, ?_, ?_⟩ ?_
                 · repeat (first | exact zxe' (by omega) | refine zxu (by decide) ?_)
                 · repeat (first | exact zxe' (by omega) | refine zxu (by decide) ?_)
                 · repeat (first | exact zxe' (by omega) | refine zxu (by decide) ?_)
                 · repeat (first | exact zxe' (by omega) | refine zxu (by decide) ?_)
                 · intro c j h1 h2
                   repeat (first | exact rfl | refine zxcj (by omega) ?_))
          · refine And.intro ⟨(by omega), (zRb rfl)⟩ ⟨fun h33 => ?_, fun h33 => ?_⟩
            · refine And.intro (zA_165 hS) (Exists.intro _ (And.intro (zinl_ok (zT21_47 0)) (And.intro rfl ?_)))
              refine And.intro (zA_165 hS) ⟨_, (zWi (zRb rfl)), ?_⟩
              refine hQ _ _ (by first | exact (ruV_n (rf := rf) (show ¬ ruOk kd a b u by unfold ruOk; omega)).1.symm | exact (ruV_f (rf := rf) (show ruOk kd a b u by unfold ruOk; omega) (by omega)).1.symm | exact Eq.trans (by omega) (ruV_y (rf := rf) (show ruOk kd a b u by unfold ruOk; omega) (by omega)).1.symm) (by first | exact zxe.trans (ruV_n (rf := rf) (show ¬ ruOk kd a b u by unfold ruOk; omega)).2.1.symm | exact zxe.trans (ruV_f (rf := rf) (show ruOk kd a b u by unfold ruOk; omega) (by omega)).2.1.symm | exact zxe.trans (ruV_y (rf := rf) (show ruOk kd a b u by unfold ruOk; omega) (by omega)).2.1.symm) ?_ (fun c j h0 h1 h2 h3 h4 h5 => (zxcj h0 rfl))
              · have stay : ∀ {I' : ZI}, ruN nr kd a b u = nr → ruF nr rf kd a b u = rf → (∀ c j : Nat, (c = 165 ∧ j = 24) ∨ (204 ≤ c ∧ c ≤ 207) → I' c j = I c j) → zMR (ruN nr kd a b u) (ruF nr rf kd a b u) I' := fun e1 e2 hf => by rw [e1, e2]; exact zMR_fr hMR hf
                first
                | exact stay (ruV_n (rf := rf) (show ¬ ruOk kd a b u by unfold ruOk; omega)).2.2.1 (ruV_n (rf := rf) (show ¬ ruOk kd a b u by unfold ruOk; omega)).2.2.2 (fun c j h => zxcj (by omega) rfl)
                | exact stay (ruV_f (rf := rf) (show ruOk kd a b u by unfold ruOk; omega) (by omega)).2.2.1 (ruV_f (rf := rf) (show ruOk kd a b u by unfold ruOk; omega) (by omega)).2.2.2 (fun c j h => zxcj (by omega) rfl)
                | (refine zMR_a hMR (show ruOk kd a b u by unfold ruOk; omega) (by omega) (zxs (by decide) (zxe.trans (by omega))) ⟨?_, ?_, ?_, ?_⟩ ?_
                   · repeat (first | exact zxe' (by omega) | refine zxu (by decide) ?_)
                   · repeat (first | exact zxe' (by omega) | refine zxu (by decide) ?_)
                   · repeat (first | exact zxe' (by omega) | refine zxu (by decide) ?_)
                   · repeat (first | exact zxe' (by omega) | refine zxu (by decide) ?_)
                   · intro c j h1 h2
                     repeat (first | exact rfl | refine zxcj (by omega) ?_))
            · refine And.intro (zRb rfl) (zbt rfl ?_)
              refine And.intro (zA_165 hS) (Exists.intro _ (And.intro (zinl_ok (zT21_47 0)) (And.intro rfl ?_)))
              refine And.intro (zA_165 hS) ⟨_, (zWi (zRb rfl)), ?_⟩
              refine hQ _ _ (by first | exact (ruV_n (rf := rf) (show ¬ ruOk kd a b u by unfold ruOk; omega)).1.symm | exact (ruV_f (rf := rf) (show ruOk kd a b u by unfold ruOk; omega) (by omega)).1.symm | exact Eq.trans (by omega) (ruV_y (rf := rf) (show ruOk kd a b u by unfold ruOk; omega) (by omega)).1.symm) (by first | exact zxe.trans (ruV_n (rf := rf) (show ¬ ruOk kd a b u by unfold ruOk; omega)).2.1.symm | exact zxe.trans (ruV_f (rf := rf) (show ruOk kd a b u by unfold ruOk; omega) (by omega)).2.1.symm | exact zxe.trans (ruV_y (rf := rf) (show ruOk kd a b u by unfold ruOk; omega) (by omega)).2.1.symm) ?_ (fun c j h0 h1 h2 h3 h4 h5 => (zxcj h0 rfl))
              · have stay : ∀ {I' : ZI}, ruN nr kd a b u = nr → ruF nr rf kd a b u = rf → (∀ c j : Nat, (c = 165 ∧ j = 24) ∨ (204 ≤ c ∧ c ≤ 207) → I' c j = I c j) → zMR (ruN nr kd a b u) (ruF nr rf kd a b u) I' := fun e1 e2 hf => by rw [e1, e2]; exact zMR_fr hMR hf
                first
                | exact stay (ruV_n (rf := rf) (show ¬ ruOk kd a b u by unfold ruOk; omega)).2.2.1 (ruV_n (rf := rf) (show ¬ ruOk kd a b u by unfold ruOk; omega)).2.2.2 (fun c j h => zxcj (by omega) rfl)
                | exact stay (ruV_f (rf := rf) (show ruOk kd a b u by unfold ruOk; omega) (by omega)).2.2.1 (ruV_f (rf := rf) (show ruOk kd a b u by unfold ruOk; omega) (by omega)).2.2.2 (fun c j h => zxcj (by omega) rfl)
                | (refine zMR_a hMR (show ruOk kd a b u by unfold ruOk; omega) (by omega) (zxs (by decide) (zxe.trans (by omega))) ⟨?_, ?_, ?_, ?_⟩ ?_
                   · repeat (first | exact zxe' (by omega) | refine zxu (by decide) ?_)
                   · repeat (first | exact zxe' (by omega) | refine zxu (by decide) ?_)
                   · repeat (first | exact zxe' (by omega) | refine zxu (by decide) ?_)
                   · repeat (first | exact zxe' (by omega) | refine zxu (by decide) ?_)
                   · intro c j h1 h2
                     repeat (first | exact rfl | refine zxcj (by omega) ?_))
        · refine And.intro (by omega) ⟨fun h28 => ?_, fun h28 => ?_⟩
          · refine And.intro (zA_165 hS) (Exists.intro _ (And.intro (zinl_ok (zT21_47 0)) (And.intro rfl ?_)))
            refine And.intro (zA_165 hS) ⟨_, (zWi (zRb rfl)), ?_⟩
            refine hQ _ _ (by first | exact (ruV_n (rf := rf) (show ¬ ruOk kd a b u by unfold ruOk; omega)).1.symm | exact (ruV_f (rf := rf) (show ruOk kd a b u by unfold ruOk; omega) (by omega)).1.symm | exact Eq.trans (by omega) (ruV_y (rf := rf) (show ruOk kd a b u by unfold ruOk; omega) (by omega)).1.symm) (by first | exact zxe.trans (ruV_n (rf := rf) (show ¬ ruOk kd a b u by unfold ruOk; omega)).2.1.symm | exact zxe.trans (ruV_f (rf := rf) (show ruOk kd a b u by unfold ruOk; omega) (by omega)).2.1.symm | exact zxe.trans (ruV_y (rf := rf) (show ruOk kd a b u by unfold ruOk; omega) (by omega)).2.1.symm) ?_ (fun c j h0 h1 h2 h3 h4 h5 => (zxcj h0 rfl))
            · have stay : ∀ {I' : ZI}, ruN nr kd a b u = nr → ruF nr rf kd a b u = rf → (∀ c j : Nat, (c = 165 ∧ j = 24) ∨ (204 ≤ c ∧ c ≤ 207) → I' c j = I c j) → zMR (ruN nr kd a b u) (ruF nr rf kd a b u) I' := fun e1 e2 hf => by rw [e1, e2]; exact zMR_fr hMR hf
              first
              | exact stay (ruV_n (rf := rf) (show ¬ ruOk kd a b u by unfold ruOk; omega)).2.2.1 (ruV_n (rf := rf) (show ¬ ruOk kd a b u by unfold ruOk; omega)).2.2.2 (fun c j h => zxcj (by omega) rfl)
              | exact stay (ruV_f (rf := rf) (show ruOk kd a b u by unfold ruOk; omega) (by omega)).2.2.1 (ruV_f (rf := rf) (show ruOk kd a b u by unfold ruOk; omega) (by omega)).2.2.2 (fun c j h => zxcj (by omega) rfl)
              | (refine zMR_a hMR (show ruOk kd a b u by unfold ruOk; omega) (by omega) (zxs (by decide) (zxe.trans (by omega))) ⟨?_, ?_, ?_, ?_⟩ ?_
                 · repeat (first | exact zxe' (by omega) | refine zxu (by decide) ?_)
                 · repeat (first | exact zxe' (by omega) | refine zxu (by decide) ?_)
                 · repeat (first | exact zxe' (by omega) | refine zxu (by decide) ?_)
                 · repeat (first | exact zxe' (by omega) | refine zxu (by decide) ?_)
                 · intro c j h1 h2
                   repeat (first | exact rfl | refine zxcj (by omega) ?_))
          · refine And.intro ⟨(by omega), (zRb rfl)⟩ ⟨fun h33 => ?_, fun h33 => ?_⟩
            · refine And.intro (zA_165 hS) (Exists.intro _ (And.intro (zinl_ok (zT21_47 0)) (And.intro rfl ?_)))
              refine And.intro (zA_165 hS) ⟨_, (zWi (zRb rfl)), ?_⟩
              refine hQ _ _ (by first | exact (ruV_n (rf := rf) (show ¬ ruOk kd a b u by unfold ruOk; omega)).1.symm | exact (ruV_f (rf := rf) (show ruOk kd a b u by unfold ruOk; omega) (by omega)).1.symm | exact Eq.trans (by omega) (ruV_y (rf := rf) (show ruOk kd a b u by unfold ruOk; omega) (by omega)).1.symm) (by first | exact zxe.trans (ruV_n (rf := rf) (show ¬ ruOk kd a b u by unfold ruOk; omega)).2.1.symm | exact zxe.trans (ruV_f (rf := rf) (show ruOk kd a b u by unfold ruOk; omega) (by omega)).2.1.symm | exact zxe.trans (ruV_y (rf := rf) (show ruOk kd a b u by unfold ruOk; omega) (by omega)).2.1.symm) ?_ (fun c j h0 h1 h2 h3 h4 h5 => (zxcj h0 rfl))
              · have stay : ∀ {I' : ZI}, ruN nr kd a b u = nr → ruF nr rf kd a b u = rf → (∀ c j : Nat, (c = 165 ∧ j = 24) ∨ (204 ≤ c ∧ c ≤ 207) → I' c j = I c j) → zMR (ruN nr kd a b u) (ruF nr rf kd a b u) I' := fun e1 e2 hf => by rw [e1, e2]; exact zMR_fr hMR hf
                first
                | exact stay (ruV_n (rf := rf) (show ¬ ruOk kd a b u by unfold ruOk; omega)).2.2.1 (ruV_n (rf := rf) (show ¬ ruOk kd a b u by unfold ruOk; omega)).2.2.2 (fun c j h => zxcj (by omega) rfl)
                | exact stay (ruV_f (rf := rf) (show ruOk kd a b u by unfold ruOk; omega) (by omega)).2.2.1 (ruV_f (rf := rf) (show ruOk kd a b u by unfold ruOk; omega) (by omega)).2.2.2 (fun c j h => zxcj (by omega) rfl)
                | (refine zMR_a hMR (show ruOk kd a b u by unfold ruOk; omega) (by omega) (zxs (by decide) (zxe.trans (by omega))) ⟨?_, ?_, ?_, ?_⟩ ?_
                   · repeat (first | exact zxe' (by omega) | refine zxu (by decide) ?_)
                   · repeat (first | exact zxe' (by omega) | refine zxu (by decide) ?_)
                   · repeat (first | exact zxe' (by omega) | refine zxu (by decide) ?_)
                   · repeat (first | exact zxe' (by omega) | refine zxu (by decide) ?_)
                   · intro c j h1 h2
                     repeat (first | exact rfl | refine zxcj (by omega) ?_))
            · refine And.intro (zRb rfl) (zbf rfl ?_)
              refine And.intro (by omega) ⟨fun h43 => ?_, fun h43 => ?_⟩
              · refine And.intro (zA_165 hS) (Exists.intro _ (And.intro (zinl_ok (zT21_47 0)) (And.intro rfl ?_)))
                refine And.intro (zA_165 hS) ⟨_, (zWi (zRb rfl)), ?_⟩
                refine hQ _ _ (by first | exact (ruV_n (rf := rf) (show ¬ ruOk kd a b u by unfold ruOk; omega)).1.symm | exact (ruV_f (rf := rf) (show ruOk kd a b u by unfold ruOk; omega) (by omega)).1.symm | exact Eq.trans (by omega) (ruV_y (rf := rf) (show ruOk kd a b u by unfold ruOk; omega) (by omega)).1.symm) (by first | exact zxe.trans (ruV_n (rf := rf) (show ¬ ruOk kd a b u by unfold ruOk; omega)).2.1.symm | exact zxe.trans (ruV_f (rf := rf) (show ruOk kd a b u by unfold ruOk; omega) (by omega)).2.1.symm | exact zxe.trans (ruV_y (rf := rf) (show ruOk kd a b u by unfold ruOk; omega) (by omega)).2.1.symm) ?_ (fun c j h0 h1 h2 h3 h4 h5 => (zxcj h0 rfl))
                · have stay : ∀ {I' : ZI}, ruN nr kd a b u = nr → ruF nr rf kd a b u = rf → (∀ c j : Nat, (c = 165 ∧ j = 24) ∨ (204 ≤ c ∧ c ≤ 207) → I' c j = I c j) → zMR (ruN nr kd a b u) (ruF nr rf kd a b u) I' := fun e1 e2 hf => by rw [e1, e2]; exact zMR_fr hMR hf
                  first
                  | exact stay (ruV_n (rf := rf) (show ¬ ruOk kd a b u by unfold ruOk; omega)).2.2.1 (ruV_n (rf := rf) (show ¬ ruOk kd a b u by unfold ruOk; omega)).2.2.2 (fun c j h => zxcj (by omega) rfl)
                  | exact stay (ruV_f (rf := rf) (show ruOk kd a b u by unfold ruOk; omega) (by omega)).2.2.1 (ruV_f (rf := rf) (show ruOk kd a b u by unfold ruOk; omega) (by omega)).2.2.2 (fun c j h => zxcj (by omega) rfl)
                  | (refine zMR_a hMR (show ruOk kd a b u by unfold ruOk; omega) (by omega) (zxs (by decide) (zxe.trans (by omega))) ⟨?_, ?_, ?_, ?_⟩ ?_
                     · repeat (first | exact zxe' (by omega) | refine zxu (by decide) ?_)
                     · repeat (first | exact zxe' (by omega) | refine zxu (by decide) ?_)
                     · repeat (first | exact zxe' (by omega) | refine zxu (by decide) ?_)
                     · repeat (first | exact zxe' (by omega) | refine zxu (by decide) ?_)
                     · intro c j h1 h2
                       repeat (first | exact rfl | refine zxcj (by omega) ?_))
              · refine And.intro ⟨(by omega), (zRb rfl)⟩ ⟨fun h50 => ?_, fun h50 => ?_⟩
                · refine And.intro ⟨(by omega), (zRb rfl)⟩ ⟨fun h60 => ?_, fun h60 => ?_⟩
                  · refine And.intro (zA_165 hS) (zrd (v := nr) hnr ?_)
                    refine And.intro ⟨(by omega), (zRb rfl)⟩ ⟨fun h75 => ?_, fun h75 => ?_⟩
                    · refine And.intro (zA_165 hS) (zrdR (v := some 204) (zR_165_25 hR) ?_)
                      refine And.intro (zA_165 hS) (zrd (v := nr) hnr ?_)
                      refine And.intro ⟨(zx0 rfl), (zP_204 hS (by omega) (by omega))⟩ ⟨_, (zWi (by omega)), ?_⟩
                      refine And.intro (zA_165 hS) (zrdR (v := some 205) (zR_165_26 hR) ?_)
                      refine And.intro (zA_165 hS) (zrd (v := nr) hnr ?_)
                      refine And.intro ⟨(zx0 rfl), (zP_205 hS (by omega) (by omega))⟩ ⟨_, (zWi (by omega)), ?_⟩
                      refine And.intro (zA_165 hS) (zrdR (v := some 206) (zR_165_27 hR) ?_)
                      refine And.intro (zA_165 hS) (zrd (v := nr) hnr ?_)
                      refine And.intro ⟨(zx0 rfl), (zP_206 hS (by omega) (by omega))⟩ ⟨_, (zWi (by omega)), ?_⟩
                      refine And.intro (zA_165 hS) (zrdR (v := some 207) (zR_165_28 hR) ?_)
                      refine And.intro (zA_165 hS) (zrd (v := nr) hnr ?_)
                      refine And.intro ⟨(zx0 rfl), (zP_207 hS (by omega) (by omega))⟩ ⟨_, (zWi (by omega)), ?_⟩
                      refine And.intro (zA_165 hS) (zrd (v := nr) hnr ?_)
                      refine And.intro (zA_165 hS) ⟨_, (zWi (by omega)), ?_⟩
                      refine And.intro (zA_165 hS) (zrd (v := (nr + 1)) rfl ?_)
                      refine And.intro (zA_165 hS) (Exists.intro _ (And.intro (zinl_ok (zT21_12 0)) (And.intro rfl ?_)))
                      refine And.intro (zA_165 hS) ⟨_, (zWi (zRb rfl)), ?_⟩
                      refine hQ _ _ (by first | exact (ruV_n (rf := rf) (show ¬ ruOk kd a b u by unfold ruOk; omega)).1.symm | exact (ruV_f (rf := rf) (show ruOk kd a b u by unfold ruOk; omega) (by omega)).1.symm | exact Eq.trans (by omega) (ruV_y (rf := rf) (show ruOk kd a b u by unfold ruOk; omega) (by omega)).1.symm) (by first | exact zxe.trans (ruV_n (rf := rf) (show ¬ ruOk kd a b u by unfold ruOk; omega)).2.1.symm | exact zxe.trans (ruV_f (rf := rf) (show ruOk kd a b u by unfold ruOk; omega) (by omega)).2.1.symm | exact zxe.trans (ruV_y (rf := rf) (show ruOk kd a b u by unfold ruOk; omega) (by omega)).2.1.symm) ?_ (fun c j h0 h1 h2 h3 h4 h5 => (zxcj h0 (zxcj h1 (zxu h5 (zxu h4 (zxu h3 (zxu h2 rfl)))))))
                      · have stay : ∀ {I' : ZI}, ruN nr kd a b u = nr → ruF nr rf kd a b u = rf → (∀ c j : Nat, (c = 165 ∧ j = 24) ∨ (204 ≤ c ∧ c ≤ 207) → I' c j = I c j) → zMR (ruN nr kd a b u) (ruF nr rf kd a b u) I' := fun e1 e2 hf => by rw [e1, e2]; exact zMR_fr hMR hf
                        first
                        | exact stay (ruV_n (rf := rf) (show ¬ ruOk kd a b u by unfold ruOk; omega)).2.2.1 (ruV_n (rf := rf) (show ¬ ruOk kd a b u by unfold ruOk; omega)).2.2.2 (fun c j h => zxcj (by omega) rfl)
                        | exact stay (ruV_f (rf := rf) (show ruOk kd a b u by unfold ruOk; omega) (by omega)).2.2.1 (ruV_f (rf := rf) (show ruOk kd a b u by unfold ruOk; omega) (by omega)).2.2.2 (fun c j h => zxcj (by omega) rfl)
                        | (refine zMR_a hMR (show ruOk kd a b u by unfold ruOk; omega) (by omega) (zxs (by decide) (zxe.trans (by omega))) ⟨?_, ?_, ?_, ?_⟩ ?_
                           · repeat (first | exact zxe' (by omega) | refine zxu (by decide) ?_)
                           · repeat (first | exact zxe' (by omega) | refine zxu (by decide) ?_)
                           · repeat (first | exact zxe' (by omega) | refine zxu (by decide) ?_)
                           · repeat (first | exact zxe' (by omega) | refine zxu (by decide) ?_)
                           · intro c j h1 h2
                             repeat (first | exact rfl | refine zxcj (by omega) ?_))
                    · refine And.intro (zA_165 hS) (Exists.intro _ (And.intro (zinl_ok (zT21_47 0)) (And.intro rfl ?_)))
                      refine And.intro (zA_165 hS) ⟨_, (zWi (zRb rfl)), ?_⟩
                      refine hQ _ _ (by first | exact (ruV_n (rf := rf) (show ¬ ruOk kd a b u by unfold ruOk; omega)).1.symm | exact (ruV_f (rf := rf) (show ruOk kd a b u by unfold ruOk; omega) (by omega)).1.symm | exact Eq.trans (by omega) (ruV_y (rf := rf) (show ruOk kd a b u by unfold ruOk; omega) (by omega)).1.symm) (by first | exact zxe.trans (ruV_n (rf := rf) (show ¬ ruOk kd a b u by unfold ruOk; omega)).2.1.symm | exact zxe.trans (ruV_f (rf := rf) (show ruOk kd a b u by unfold ruOk; omega) (by omega)).2.1.symm | exact zxe.trans (ruV_y (rf := rf) (show ruOk kd a b u by unfold ruOk; omega) (by omega)).2.1.symm) ?_ (fun c j h0 h1 h2 h3 h4 h5 => (zxcj h0 rfl))
                      · have stay : ∀ {I' : ZI}, ruN nr kd a b u = nr → ruF nr rf kd a b u = rf → (∀ c j : Nat, (c = 165 ∧ j = 24) ∨ (204 ≤ c ∧ c ≤ 207) → I' c j = I c j) → zMR (ruN nr kd a b u) (ruF nr rf kd a b u) I' := fun e1 e2 hf => by rw [e1, e2]; exact zMR_fr hMR hf
                        first
                        | exact stay (ruV_n (rf := rf) (show ¬ ruOk kd a b u by unfold ruOk; omega)).2.2.1 (ruV_n (rf := rf) (show ¬ ruOk kd a b u by unfold ruOk; omega)).2.2.2 (fun c j h => zxcj (by omega) rfl)
                        | exact stay (ruV_f (rf := rf) (show ruOk kd a b u by unfold ruOk; omega) (by omega)).2.2.1 (ruV_f (rf := rf) (show ruOk kd a b u by unfold ruOk; omega) (by omega)).2.2.2 (fun c j h => zxcj (by omega) rfl)
                        | (refine zMR_a hMR (show ruOk kd a b u by unfold ruOk; omega) (by omega) (zxs (by decide) (zxe.trans (by omega))) ⟨?_, ?_, ?_, ?_⟩ ?_
                           · repeat (first | exact zxe' (by omega) | refine zxu (by decide) ?_)
                           · repeat (first | exact zxe' (by omega) | refine zxu (by decide) ?_)
                           · repeat (first | exact zxe' (by omega) | refine zxu (by decide) ?_)
                           · repeat (first | exact zxe' (by omega) | refine zxu (by decide) ?_)
                           · intro c j h1 h2
                             repeat (first | exact rfl | refine zxcj (by omega) ?_))
                  · refine And.intro (zA_165 hS) (Exists.intro _ (And.intro (zinl_ok (zT21_47 0)) (And.intro rfl ?_)))
                    refine And.intro (zA_165 hS) ⟨_, (zWi (zRb rfl)), ?_⟩
                    refine hQ _ _ (by first | exact (ruV_n (rf := rf) (show ¬ ruOk kd a b u by unfold ruOk; omega)).1.symm | exact (ruV_f (rf := rf) (show ruOk kd a b u by unfold ruOk; omega) (by omega)).1.symm | exact Eq.trans (by omega) (ruV_y (rf := rf) (show ruOk kd a b u by unfold ruOk; omega) (by omega)).1.symm) (by first | exact zxe.trans (ruV_n (rf := rf) (show ¬ ruOk kd a b u by unfold ruOk; omega)).2.1.symm | exact zxe.trans (ruV_f (rf := rf) (show ruOk kd a b u by unfold ruOk; omega) (by omega)).2.1.symm | exact zxe.trans (ruV_y (rf := rf) (show ruOk kd a b u by unfold ruOk; omega) (by omega)).2.1.symm) ?_ (fun c j h0 h1 h2 h3 h4 h5 => (zxcj h0 rfl))
                    · have stay : ∀ {I' : ZI}, ruN nr kd a b u = nr → ruF nr rf kd a b u = rf → (∀ c j : Nat, (c = 165 ∧ j = 24) ∨ (204 ≤ c ∧ c ≤ 207) → I' c j = I c j) → zMR (ruN nr kd a b u) (ruF nr rf kd a b u) I' := fun e1 e2 hf => by rw [e1, e2]; exact zMR_fr hMR hf
                      first
                      | exact stay (ruV_n (rf := rf) (show ¬ ruOk kd a b u by unfold ruOk; omega)).2.2.1 (ruV_n (rf := rf) (show ¬ ruOk kd a b u by unfold ruOk; omega)).2.2.2 (fun c j h => zxcj (by omega) rfl)
                      | exact stay (ruV_f (rf := rf) (show ruOk kd a b u by unfold ruOk; omega) (by omega)).2.2.1 (ruV_f (rf := rf) (show ruOk kd a b u by unfold ruOk; omega) (by omega)).2.2.2 (fun c j h => zxcj (by omega) rfl)
                      | (refine zMR_a hMR (show ruOk kd a b u by unfold ruOk; omega) (by omega) (zxs (by decide) (zxe.trans (by omega))) ⟨?_, ?_, ?_, ?_⟩ ?_
                         · repeat (first | exact zxe' (by omega) | refine zxu (by decide) ?_)
                         · repeat (first | exact zxe' (by omega) | refine zxu (by decide) ?_)
                         · repeat (first | exact zxe' (by omega) | refine zxu (by decide) ?_)
                         · repeat (first | exact zxe' (by omega) | refine zxu (by decide) ?_)
                         · intro c j h1 h2
                           repeat (first | exact rfl | refine zxcj (by omega) ?_))
                · refine And.intro ⟨(by omega), (zRb rfl)⟩ ⟨fun h60 => ?_, fun h60 => ?_⟩
                  · refine And.intro (zA_165 hS) (zrd (v := nr) hnr ?_)
                    refine And.intro ⟨(by omega), (zRb rfl)⟩ ⟨fun h75 => ?_, fun h75 => ?_⟩
                    · refine And.intro (zA_165 hS) (zrdR (v := some 204) (zR_165_25 hR) ?_)
                      refine And.intro (zA_165 hS) (zrd (v := nr) hnr ?_)
                      refine And.intro ⟨(zx0 rfl), (zP_204 hS (by omega) (by omega))⟩ ⟨_, (zWi (by omega)), ?_⟩
                      refine And.intro (zA_165 hS) (zrdR (v := some 205) (zR_165_26 hR) ?_)
                      refine And.intro (zA_165 hS) (zrd (v := nr) hnr ?_)
                      refine And.intro ⟨(zx0 rfl), (zP_205 hS (by omega) (by omega))⟩ ⟨_, (zWi (by omega)), ?_⟩
                      refine And.intro (zA_165 hS) (zrdR (v := some 206) (zR_165_27 hR) ?_)
                      refine And.intro (zA_165 hS) (zrd (v := nr) hnr ?_)
                      refine And.intro ⟨(zx0 rfl), (zP_206 hS (by omega) (by omega))⟩ ⟨_, (zWi (by omega)), ?_⟩
                      refine And.intro (zA_165 hS) (zrdR (v := some 207) (zR_165_28 hR) ?_)
                      refine And.intro (zA_165 hS) (zrd (v := nr) hnr ?_)
                      refine And.intro ⟨(zx0 rfl), (zP_207 hS (by omega) (by omega))⟩ ⟨_, (zWi (by omega)), ?_⟩
                      refine And.intro (zA_165 hS) (zrd (v := nr) hnr ?_)
                      refine And.intro (zA_165 hS) ⟨_, (zWi (by omega)), ?_⟩
                      refine And.intro (zA_165 hS) (zrd (v := (nr + 1)) rfl ?_)
                      refine And.intro (zA_165 hS) (Exists.intro _ (And.intro (zinl_ok (zT21_12 0)) (And.intro rfl ?_)))
                      refine And.intro (zA_165 hS) ⟨_, (zWi (zRb rfl)), ?_⟩
                      refine hQ _ _ (by first | exact (ruV_n (rf := rf) (show ¬ ruOk kd a b u by unfold ruOk; omega)).1.symm | exact (ruV_f (rf := rf) (show ruOk kd a b u by unfold ruOk; omega) (by omega)).1.symm | exact Eq.trans (by omega) (ruV_y (rf := rf) (show ruOk kd a b u by unfold ruOk; omega) (by omega)).1.symm) (by first | exact zxe.trans (ruV_n (rf := rf) (show ¬ ruOk kd a b u by unfold ruOk; omega)).2.1.symm | exact zxe.trans (ruV_f (rf := rf) (show ruOk kd a b u by unfold ruOk; omega) (by omega)).2.1.symm | exact zxe.trans (ruV_y (rf := rf) (show ruOk kd a b u by unfold ruOk; omega) (by omega)).2.1.symm) ?_ (fun c j h0 h1 h2 h3 h4 h5 => (zxcj h0 (zxcj h1 (zxu h5 (zxu h4 (zxu h3 (zxu h2 rfl)))))))
                      · have stay : ∀ {I' : ZI}, ruN nr kd a b u = nr → ruF nr rf kd a b u = rf → (∀ c j : Nat, (c = 165 ∧ j = 24) ∨ (204 ≤ c ∧ c ≤ 207) → I' c j = I c j) → zMR (ruN nr kd a b u) (ruF nr rf kd a b u) I' := fun e1 e2 hf => by rw [e1, e2]; exact zMR_fr hMR hf
                        first
                        | exact stay (ruV_n (rf := rf) (show ¬ ruOk kd a b u by unfold ruOk; omega)).2.2.1 (ruV_n (rf := rf) (show ¬ ruOk kd a b u by unfold ruOk; omega)).2.2.2 (fun c j h => zxcj (by omega) rfl)
                        | exact stay (ruV_f (rf := rf) (show ruOk kd a b u by unfold ruOk; omega) (by omega)).2.2.1 (ruV_f (rf := rf) (show ruOk kd a b u by unfold ruOk; omega) (by omega)).2.2.2 (fun c j h => zxcj (by omega) rfl)
                        | (refine zMR_a hMR (show ruOk kd a b u by unfold ruOk; omega) (by omega) (zxs (by decide) (zxe.trans (by omega))) ⟨?_, ?_, ?_, ?_⟩ ?_
                           · repeat (first | exact zxe' (by omega) | refine zxu (by decide) ?_)
                           · repeat (first | exact zxe' (by omega) | refine zxu (by decide) ?_)
                           · repeat (first | exact zxe' (by omega) | refine zxu (by decide) ?_)
                           · repeat (first | exact zxe' (by omega) | refine zxu (by decide) ?_)
                           · intro c j h1 h2
                             repeat (first | exact rfl | refine zxcj (by omega) ?_))
                    · refine And.intro (zA_165 hS) (Exists.intro _ (And.intro (zinl_ok (zT21_47 0)) (And.intro rfl ?_)))
                      refine And.intro (zA_165 hS) ⟨_, (zWi (zRb rfl)), ?_⟩
                      refine hQ _ _ (by first | exact (ruV_n (rf := rf) (show ¬ ruOk kd a b u by unfold ruOk; omega)).1.symm | exact (ruV_f (rf := rf) (show ruOk kd a b u by unfold ruOk; omega) (by omega)).1.symm | exact Eq.trans (by omega) (ruV_y (rf := rf) (show ruOk kd a b u by unfold ruOk; omega) (by omega)).1.symm) (by first | exact zxe.trans (ruV_n (rf := rf) (show ¬ ruOk kd a b u by unfold ruOk; omega)).2.1.symm | exact zxe.trans (ruV_f (rf := rf) (show ruOk kd a b u by unfold ruOk; omega) (by omega)).2.1.symm | exact zxe.trans (ruV_y (rf := rf) (show ruOk kd a b u by unfold ruOk; omega) (by omega)).2.1.symm) ?_ (fun c j h0 h1 h2 h3 h4 h5 => (zxcj h0 rfl))
                      · have stay : ∀ {I' : ZI}, ruN nr kd a b u = nr → ruF nr rf kd a b u = rf → (∀ c j : Nat, (c = 165 ∧ j = 24) ∨ (204 ≤ c ∧ c ≤ 207) → I' c j = I c j) → zMR (ruN nr kd a b u) (ruF nr rf kd a b u) I' := fun e1 e2 hf => by rw [e1, e2]; exact zMR_fr hMR hf
                        first
                        | exact stay (ruV_n (rf := rf) (show ¬ ruOk kd a b u by unfold ruOk; omega)).2.2.1 (ruV_n (rf := rf) (show ¬ ruOk kd a b u by unfold ruOk; omega)).2.2.2 (fun c j h => zxcj (by omega) rfl)
                        | exact stay (ruV_f (rf := rf) (show ruOk kd a b u by unfold ruOk; omega) (by omega)).2.2.1 (ruV_f (rf := rf) (show ruOk kd a b u by unfold ruOk; omega) (by omega)).2.2.2 (fun c j h => zxcj (by omega) rfl)
                        | (refine zMR_a hMR (show ruOk kd a b u by unfold ruOk; omega) (by omega) (zxs (by decide) (zxe.trans (by omega))) ⟨?_, ?_, ?_, ?_⟩ ?_
                           · repeat (first | exact zxe' (by omega) | refine zxu (by decide) ?_)
                           · repeat (first | exact zxe' (by omega) | refine zxu (by decide) ?_)
                           · repeat (first | exact zxe' (by omega) | refine zxu (by decide) ?_)
                           · repeat (first | exact zxe' (by omega) | refine zxu (by decide) ?_)
                           · intro c j h1 h2
                             repeat (first | exact rfl | refine zxcj (by omega) ?_))
                  · refine And.intro (zA_165 hS) (Exists.intro _ (And.intro (zinl_ok (zT21_47 0)) (And.intro rfl ?_)))
                    refine And.intro (zA_165 hS) ⟨_, (zWi (zRb rfl)), ?_⟩
                    refine hQ _ _ (by first | exact (ruV_n (rf := rf) (show ¬ ruOk kd a b u by unfold ruOk; omega)).1.symm | exact (ruV_f (rf := rf) (show ruOk kd a b u by unfold ruOk; omega) (by omega)).1.symm | exact Eq.trans (by omega) (ruV_y (rf := rf) (show ruOk kd a b u by unfold ruOk; omega) (by omega)).1.symm) (by first | exact zxe.trans (ruV_n (rf := rf) (show ¬ ruOk kd a b u by unfold ruOk; omega)).2.1.symm | exact zxe.trans (ruV_f (rf := rf) (show ruOk kd a b u by unfold ruOk; omega) (by omega)).2.1.symm | exact zxe.trans (ruV_y (rf := rf) (show ruOk kd a b u by unfold ruOk; omega) (by omega)).2.1.symm) ?_ (fun c j h0 h1 h2 h3 h4 h5 => (zxcj h0 rfl))
                    · have stay : ∀ {I' : ZI}, ruN nr kd a b u = nr → ruF nr rf kd a b u = rf → (∀ c j : Nat, (c = 165 ∧ j = 24) ∨ (204 ≤ c ∧ c ≤ 207) → I' c j = I c j) → zMR (ruN nr kd a b u) (ruF nr rf kd a b u) I' := fun e1 e2 hf => by rw [e1, e2]; exact zMR_fr hMR hf
                      first
                      | exact stay (ruV_n (rf := rf) (show ¬ ruOk kd a b u by unfold ruOk; omega)).2.2.1 (ruV_n (rf := rf) (show ¬ ruOk kd a b u by unfold ruOk; omega)).2.2.2 (fun c j h => zxcj (by omega) rfl)
                      | exact stay (ruV_f (rf := rf) (show ruOk kd a b u by unfold ruOk; omega) (by omega)).2.2.1 (ruV_f (rf := rf) (show ruOk kd a b u by unfold ruOk; omega) (by omega)).2.2.2 (fun c j h => zxcj (by omega) rfl)
                      | (refine zMR_a hMR (show ruOk kd a b u by unfold ruOk; omega) (by omega) (zxs (by decide) (zxe.trans (by omega))) ⟨?_, ?_, ?_, ?_⟩ ?_
                         · repeat (first | exact zxe' (by omega) | refine zxu (by decide) ?_)
                         · repeat (first | exact zxe' (by omega) | refine zxu (by decide) ?_)
                         · repeat (first | exact zxe' (by omega) | refine zxu (by decide) ?_)
                         · repeat (first | exact zxe' (by omega) | refine zxu (by decide) ?_)
                         · intro c j h1 h2
                           repeat (first | exact rfl | refine zxcj (by omega) ?_)))
def T_Z_rul : ZT := fun args I L R S Q => ∃ (nr : Nat) (rf : Nat → Nat → Int) (kd : Int) (a : Int) (b : Int) (u : Int), args = [zvr 40, zvi kd, zvi a, zvi b, zvi u] ∧ (zSh S) ∧ (zRs R) ∧ (zRT 104 30 nr rf I) ∧ (r32 kd ∧ r32 a ∧ r32 b ∧ r32 u) ∧ ∀ (v : Int) (I' : ZI), (v = if 0 ≤ (ruV nr kd a b u) then (ruV nr kd a b u) else -1) → (I' 40 3 = if 0 ≤ (ruV nr kd a b u) then 0 else -(ruV nr kd a b u)) → (zRT 104 30 (ruN nr kd a b u) (ruF nr rf kd a b u) I') → (∀ c j : Nat, ¬ (c = 40 ∧ j = 3) → ¬ (c = 104 ∧ j = 2) → ¬ c = 105 → I' c j = I c j) → Q (some (zvi (v))) I' L R S
theorem sn_Z_rul : ZSnd 2 11 42 T_Z_rul := ZSnd.of (zT11_42 1) (by
  rintro args I L R S Q hz ⟨nr, rf, kd, a, b, u, rfl, hS, hR, hT, hr, hQ⟩
  obtain ⟨t1, t2, t3, t4⟩ := id hT
  refine And.intro rfl ?_
  refine And.intro ⟨(by omega), (zRb rfl)⟩ ⟨fun h2 => ?_, fun h2 => ?_⟩
  · refine And.intro (by omega) ⟨fun h14 => ?_, fun h14 => ?_⟩
    · refine And.intro (zRb rfl) (zbt rfl ?_)
      refine And.intro (zA_40 hS) (Exists.intro _ (And.intro (zinl_ok (zT11_1 0)) (And.intro rfl ?_)))
      refine And.intro (zRb rfl) (zbf rfl ?_)
      refine And.intro (zA_40 hS) ⟨_, (zWi (zRb rfl)), ?_⟩
      refine And.intro (zRb rfl) (zbf rfl ?_)
      refine hQ _ _ (by first | exact (ruV_n (rf := rf) (show ¬ ruOk kd a b u by unfold ruOk; omega)).1.symm | exact (ruV_f (rf := rf) (show ruOk kd a b u by unfold ruOk; omega) (by omega)).1.symm | exact Eq.trans (by omega) (ruV_y (rf := rf) (show ruOk kd a b u by unfold ruOk; omega) (by omega)).1.symm) (by first | exact zxe.trans (ruV_n (rf := rf) (show ¬ ruOk kd a b u by unfold ruOk; omega)).2.1.symm | exact zxe.trans (ruV_f (rf := rf) (show ruOk kd a b u by unfold ruOk; omega) (by omega)).2.1.symm | exact zxe.trans (ruV_y (rf := rf) (show ruOk kd a b u by unfold ruOk; omega) (by omega)).2.1.symm) ?_ (fun c j h0 h1 h2 => (zxcj h0 rfl))
      · have stay : ∀ {I' : ZI}, ruN nr kd a b u = nr → ruF nr rf kd a b u = rf → (∀ c j : Nat, 104 ≤ c ∧ c ≤ 105 → I' c j = I c j) → zRT 104 30 (ruN nr kd a b u) (ruF nr rf kd a b u) I' := fun e1 e2 hf => by rw [e1, e2]; exact zRT_fr hT (fun c j q => hf c j (by omega))
        first
        | exact stay (ruV_n (rf := rf) (show ¬ ruOk kd a b u by unfold ruOk; omega)).2.2.1 (ruV_n (rf := rf) (show ¬ ruOk kd a b u by unfold ruOk; omega)).2.2.2 (fun c j h => zxu (by omega) rfl)
        | exact stay (ruV_f (rf := rf) (show ruOk kd a b u by unfold ruOk; omega) (by omega)).2.2.1 (ruV_f (rf := rf) (show ruOk kd a b u by unfold ruOk; omega) (by omega)).2.2.2 (fun c j h => zxu (by omega) rfl)
        | (rw [(ruV_y (rf := rf) (show ruOk kd a b u by unfold ruOk; omega) (show nr ≠ 30 by omega)).2.2.1, (ruV_y (rf := rf) (show ruOk kd a b u by unfold ruOk; omega) (show nr ≠ 30 by omega)).2.2.2]
           exact zRT_fr p94bhT2 (fun c j q => zxu (by omega) rfl))
    · refine And.intro ⟨(by omega), (zRb rfl)⟩ ⟨fun h19 => ?_, fun h19 => ?_⟩
      · refine And.intro (zRb rfl) (zbt rfl ?_)
        refine And.intro (zA_40 hS) (Exists.intro _ (And.intro (zinl_ok (zT11_1 0)) (And.intro rfl ?_)))
        refine And.intro (zRb rfl) (zbf rfl ?_)
        refine And.intro (zA_40 hS) ⟨_, (zWi (zRb rfl)), ?_⟩
        refine And.intro (zRb rfl) (zbf rfl ?_)
        refine hQ _ _ (by first | exact (ruV_n (rf := rf) (show ¬ ruOk kd a b u by unfold ruOk; omega)).1.symm | exact (ruV_f (rf := rf) (show ruOk kd a b u by unfold ruOk; omega) (by omega)).1.symm | exact Eq.trans (by omega) (ruV_y (rf := rf) (show ruOk kd a b u by unfold ruOk; omega) (by omega)).1.symm) (by first | exact zxe.trans (ruV_n (rf := rf) (show ¬ ruOk kd a b u by unfold ruOk; omega)).2.1.symm | exact zxe.trans (ruV_f (rf := rf) (show ruOk kd a b u by unfold ruOk; omega) (by omega)).2.1.symm | exact zxe.trans (ruV_y (rf := rf) (show ruOk kd a b u by unfold ruOk; omega) (by omega)).2.1.symm) ?_ (fun c j h0 h1 h2 => (zxcj h0 rfl))
        · have stay : ∀ {I' : ZI}, ruN nr kd a b u = nr → ruF nr rf kd a b u = rf → (∀ c j : Nat, 104 ≤ c ∧ c ≤ 105 → I' c j = I c j) → zRT 104 30 (ruN nr kd a b u) (ruF nr rf kd a b u) I' := fun e1 e2 hf => by rw [e1, e2]; exact zRT_fr hT (fun c j q => hf c j (by omega))
          first
          | exact stay (ruV_n (rf := rf) (show ¬ ruOk kd a b u by unfold ruOk; omega)).2.2.1 (ruV_n (rf := rf) (show ¬ ruOk kd a b u by unfold ruOk; omega)).2.2.2 (fun c j h => zxu (by omega) rfl)
          | exact stay (ruV_f (rf := rf) (show ruOk kd a b u by unfold ruOk; omega) (by omega)).2.2.1 (ruV_f (rf := rf) (show ruOk kd a b u by unfold ruOk; omega) (by omega)).2.2.2 (fun c j h => zxu (by omega) rfl)
          | (rw [(ruV_y (rf := rf) (show ruOk kd a b u by unfold ruOk; omega) (show nr ≠ 30 by omega)).2.2.1, (ruV_y (rf := rf) (show ruOk kd a b u by unfold ruOk; omega) (show nr ≠ 30 by omega)).2.2.2]
             exact zRT_fr p94bhT2 (fun c j q => zxu (by omega) rfl))
      · refine Exists.intro _ (And.intro (zinl_ok (zT11_24 0)) (And.intro rfl ?_))
        refine And.intro ⟨(by omega), (zRb rfl)⟩ ⟨fun h2_23 => ?_, fun h2_23 => ?_⟩
        · refine And.intro (Or.inl rfl) ?_
          refine And.intro (zRb rfl) (zbt rfl ?_)
          refine And.intro (zRb rfl) (zbt rfl ?_)
          refine And.intro (zA_40 hS) (Exists.intro _ (And.intro (zinl_ok (zT11_1 0)) (And.intro rfl ?_)))
          refine And.intro (zRb rfl) (zbf rfl ?_)
          refine And.intro (zA_40 hS) ⟨_, (zWi (zRb rfl)), ?_⟩
          refine And.intro (zRb rfl) (zbf rfl ?_)
          refine hQ _ _ (by first | exact (ruV_n (rf := rf) (show ¬ ruOk kd a b u by unfold ruOk; omega)).1.symm | exact (ruV_f (rf := rf) (show ruOk kd a b u by unfold ruOk; omega) (by omega)).1.symm | exact Eq.trans (by omega) (ruV_y (rf := rf) (show ruOk kd a b u by unfold ruOk; omega) (by omega)).1.symm) (by first | exact zxe.trans (ruV_n (rf := rf) (show ¬ ruOk kd a b u by unfold ruOk; omega)).2.1.symm | exact zxe.trans (ruV_f (rf := rf) (show ruOk kd a b u by unfold ruOk; omega) (by omega)).2.1.symm | exact zxe.trans (ruV_y (rf := rf) (show ruOk kd a b u by unfold ruOk; omega) (by omega)).2.1.symm) ?_ (fun c j h0 h1 h2 => (zxcj h0 rfl))
          · have stay : ∀ {I' : ZI}, ruN nr kd a b u = nr → ruF nr rf kd a b u = rf → (∀ c j : Nat, 104 ≤ c ∧ c ≤ 105 → I' c j = I c j) → zRT 104 30 (ruN nr kd a b u) (ruF nr rf kd a b u) I' := fun e1 e2 hf => by rw [e1, e2]; exact zRT_fr hT (fun c j q => hf c j (by omega))
            first
            | exact stay (ruV_n (rf := rf) (show ¬ ruOk kd a b u by unfold ruOk; omega)).2.2.1 (ruV_n (rf := rf) (show ¬ ruOk kd a b u by unfold ruOk; omega)).2.2.2 (fun c j h => zxu (by omega) rfl)
            | exact stay (ruV_f (rf := rf) (show ruOk kd a b u by unfold ruOk; omega) (by omega)).2.2.1 (ruV_f (rf := rf) (show ruOk kd a b u by unfold ruOk; omega) (by omega)).2.2.2 (fun c j h => zxu (by omega) rfl)
            | (rw [(ruV_y (rf := rf) (show ruOk kd a b u by unfold ruOk; omega) (show nr ≠ 30 by omega)).2.2.1, (ruV_y (rf := rf) (show ruOk kd a b u by unfold ruOk; omega) (show nr ≠ 30 by omega)).2.2.2]
               exact zRT_fr p94bhT2 (fun c j q => zxu (by omega) rfl))
        · refine And.intro ⟨(by omega), (zRb rfl)⟩ ⟨fun h7_23 => ?_, fun h7_23 => ?_⟩
          · refine And.intro (Or.inl rfl) ?_
            refine And.intro (zRb rfl) (zbt rfl ?_)
            refine And.intro (zRb rfl) (zbt rfl ?_)
            refine And.intro (zA_40 hS) (Exists.intro _ (And.intro (zinl_ok (zT11_1 0)) (And.intro rfl ?_)))
            refine And.intro (zRb rfl) (zbf rfl ?_)
            refine And.intro (zA_40 hS) ⟨_, (zWi (zRb rfl)), ?_⟩
            refine And.intro (zRb rfl) (zbf rfl ?_)
            refine hQ _ _ (by first | exact (ruV_n (rf := rf) (show ¬ ruOk kd a b u by unfold ruOk; omega)).1.symm | exact (ruV_f (rf := rf) (show ruOk kd a b u by unfold ruOk; omega) (by omega)).1.symm | exact Eq.trans (by omega) (ruV_y (rf := rf) (show ruOk kd a b u by unfold ruOk; omega) (by omega)).1.symm) (by first | exact zxe.trans (ruV_n (rf := rf) (show ¬ ruOk kd a b u by unfold ruOk; omega)).2.1.symm | exact zxe.trans (ruV_f (rf := rf) (show ruOk kd a b u by unfold ruOk; omega) (by omega)).2.1.symm | exact zxe.trans (ruV_y (rf := rf) (show ruOk kd a b u by unfold ruOk; omega) (by omega)).2.1.symm) ?_ (fun c j h0 h1 h2 => (zxcj h0 rfl))
            · have stay : ∀ {I' : ZI}, ruN nr kd a b u = nr → ruF nr rf kd a b u = rf → (∀ c j : Nat, 104 ≤ c ∧ c ≤ 105 → I' c j = I c j) → zRT 104 30 (ruN nr kd a b u) (ruF nr rf kd a b u) I' := fun e1 e2 hf => by rw [e1, e2]; exact zRT_fr hT (fun c j q => hf c j (by omega))
              first
              | exact stay (ruV_n (rf := rf) (show ¬ ruOk kd a b u by unfold ruOk; omega)).2.2.1 (ruV_n (rf := rf) (show ¬ ruOk kd a b u by unfold ruOk; omega)).2.2.2 (fun c j h => zxu (by omega) rfl)
              | exact stay (ruV_f (rf := rf) (show ruOk kd a b u by unfold ruOk; omega) (by omega)).2.2.1 (ruV_f (rf := rf) (show ruOk kd a b u by unfold ruOk; omega) (by omega)).2.2.2 (fun c j h => zxu (by omega) rfl)
              | (rw [(ruV_y (rf := rf) (show ruOk kd a b u by unfold ruOk; omega) (show nr ≠ 30 by omega)).2.2.1, (ruV_y (rf := rf) (show ruOk kd a b u by unfold ruOk; omega) (show nr ≠ 30 by omega)).2.2.2]
                 exact zRT_fr p94bhT2 (fun c j q => zxu (by omega) rfl))
          · refine And.intro (Or.inr rfl) ?_
            refine And.intro (zRb rfl) (zbf rfl ?_)
            refine Exists.intro _ (And.intro (zinl_ok (zT11_24 0)) (And.intro rfl ?_))
            refine And.intro ⟨(by omega), (zRb rfl)⟩ ⟨fun h2_30 => ?_, fun h2_30 => ?_⟩
            · refine And.intro (Or.inl rfl) ?_
              refine And.intro (zRb rfl) (zbt rfl ?_)
              refine And.intro (zRb rfl) (zbt rfl ?_)
              refine And.intro (zA_40 hS) (Exists.intro _ (And.intro (zinl_ok (zT11_1 0)) (And.intro rfl ?_)))
              refine And.intro (zRb rfl) (zbf rfl ?_)
              refine And.intro (zA_40 hS) ⟨_, (zWi (zRb rfl)), ?_⟩
              refine And.intro (zRb rfl) (zbf rfl ?_)
              refine hQ _ _ (by first | exact (ruV_n (rf := rf) (show ¬ ruOk kd a b u by unfold ruOk; omega)).1.symm | exact (ruV_f (rf := rf) (show ruOk kd a b u by unfold ruOk; omega) (by omega)).1.symm | exact Eq.trans (by omega) (ruV_y (rf := rf) (show ruOk kd a b u by unfold ruOk; omega) (by omega)).1.symm) (by first | exact zxe.trans (ruV_n (rf := rf) (show ¬ ruOk kd a b u by unfold ruOk; omega)).2.1.symm | exact zxe.trans (ruV_f (rf := rf) (show ruOk kd a b u by unfold ruOk; omega) (by omega)).2.1.symm | exact zxe.trans (ruV_y (rf := rf) (show ruOk kd a b u by unfold ruOk; omega) (by omega)).2.1.symm) ?_ (fun c j h0 h1 h2 => (zxcj h0 rfl))
              · have stay : ∀ {I' : ZI}, ruN nr kd a b u = nr → ruF nr rf kd a b u = rf → (∀ c j : Nat, 104 ≤ c ∧ c ≤ 105 → I' c j = I c j) → zRT 104 30 (ruN nr kd a b u) (ruF nr rf kd a b u) I' := fun e1 e2 hf => by rw [e1, e2]; exact zRT_fr hT (fun c j q => hf c j (by omega))
                first
                | exact stay (ruV_n (rf := rf) (show ¬ ruOk kd a b u by unfold ruOk; omega)).2.2.1 (ruV_n (rf := rf) (show ¬ ruOk kd a b u by unfold ruOk; omega)).2.2.2 (fun c j h => zxu (by omega) rfl)
                | exact stay (ruV_f (rf := rf) (show ruOk kd a b u by unfold ruOk; omega) (by omega)).2.2.1 (ruV_f (rf := rf) (show ruOk kd a b u by unfold ruOk; omega) (by omega)).2.2.2 (fun c j h => zxu (by omega) rfl)
                | (rw [(ruV_y (rf := rf) (show ruOk kd a b u by unfold ruOk; omega) (show nr ≠ 30 by omega)).2.2.1, (ruV_y (rf := rf) (show ruOk kd a b u by unfold ruOk; omega) (show nr ≠ 30 by omega)).2.2.2]
                   exact zRT_fr p94bhT2 (fun c j q => zxu (by omega) rfl))
            · refine And.intro ⟨(by omega), (zRb rfl)⟩ ⟨fun h7_30 => ?_, fun h7_30 => ?_⟩
              · refine And.intro (Or.inl rfl) ?_
                refine And.intro (zRb rfl) (zbt rfl ?_)
                refine And.intro (zRb rfl) (zbt rfl ?_)
                refine And.intro (zA_40 hS) (Exists.intro _ (And.intro (zinl_ok (zT11_1 0)) (And.intro rfl ?_)))
                refine And.intro (zRb rfl) (zbf rfl ?_)
                refine And.intro (zA_40 hS) ⟨_, (zWi (zRb rfl)), ?_⟩
                refine And.intro (zRb rfl) (zbf rfl ?_)
                refine hQ _ _ (by first | exact (ruV_n (rf := rf) (show ¬ ruOk kd a b u by unfold ruOk; omega)).1.symm | exact (ruV_f (rf := rf) (show ruOk kd a b u by unfold ruOk; omega) (by omega)).1.symm | exact Eq.trans (by omega) (ruV_y (rf := rf) (show ruOk kd a b u by unfold ruOk; omega) (by omega)).1.symm) (by first | exact zxe.trans (ruV_n (rf := rf) (show ¬ ruOk kd a b u by unfold ruOk; omega)).2.1.symm | exact zxe.trans (ruV_f (rf := rf) (show ruOk kd a b u by unfold ruOk; omega) (by omega)).2.1.symm | exact zxe.trans (ruV_y (rf := rf) (show ruOk kd a b u by unfold ruOk; omega) (by omega)).2.1.symm) ?_ (fun c j h0 h1 h2 => (zxcj h0 rfl))
                · have stay : ∀ {I' : ZI}, ruN nr kd a b u = nr → ruF nr rf kd a b u = rf → (∀ c j : Nat, 104 ≤ c ∧ c ≤ 105 → I' c j = I c j) → zRT 104 30 (ruN nr kd a b u) (ruF nr rf kd a b u) I' := fun e1 e2 hf => by rw [e1, e2]; exact zRT_fr hT (fun c j q => hf c j (by omega))
                  first
                  | exact stay (ruV_n (rf := rf) (show ¬ ruOk kd a b u by unfold ruOk; omega)).2.2.1 (ruV_n (rf := rf) (show ¬ ruOk kd a b u by unfold ruOk; omega)).2.2.2 (fun c j h => zxu (by omega) rfl)
                  | exact stay (ruV_f (rf := rf) (show ruOk kd a b u by unfold ruOk; omega) (by omega)).2.2.1 (ruV_f (rf := rf) (show ruOk kd a b u by unfold ruOk; omega) (by omega)).2.2.2 (fun c j h => zxu (by omega) rfl)
                  | (rw [(ruV_y (rf := rf) (show ruOk kd a b u by unfold ruOk; omega) (show nr ≠ 30 by omega)).2.2.1, (ruV_y (rf := rf) (show ruOk kd a b u by unfold ruOk; omega) (show nr ≠ 30 by omega)).2.2.2]
                     exact zRT_fr p94bhT2 (fun c j q => zxu (by omega) rfl))
              · refine And.intro (Or.inr rfl) ?_
                refine And.intro (zRb rfl) (zbf rfl ?_)
                refine And.intro (zRb rfl) (zbf rfl ?_)
                refine And.intro (by omega) ⟨fun h50 => ?_, fun h50 => ?_⟩
                · refine And.intro (zA_40 hS) (Exists.intro _ (And.intro (zinl_ok (zT11_1 0)) (And.intro rfl ?_)))
                  refine And.intro (zRb rfl) (zbf rfl ?_)
                  refine And.intro (zA_40 hS) ⟨_, (zWi (zRb rfl)), ?_⟩
                  refine And.intro (zRb rfl) (zbf rfl ?_)
                  refine hQ _ _ (by first | exact (ruV_n (rf := rf) (show ¬ ruOk kd a b u by unfold ruOk; omega)).1.symm | exact (ruV_f (rf := rf) (show ruOk kd a b u by unfold ruOk; omega) (by omega)).1.symm | exact Eq.trans (by omega) (ruV_y (rf := rf) (show ruOk kd a b u by unfold ruOk; omega) (by omega)).1.symm) (by first | exact zxe.trans (ruV_n (rf := rf) (show ¬ ruOk kd a b u by unfold ruOk; omega)).2.1.symm | exact zxe.trans (ruV_f (rf := rf) (show ruOk kd a b u by unfold ruOk; omega) (by omega)).2.1.symm | exact zxe.trans (ruV_y (rf := rf) (show ruOk kd a b u by unfold ruOk; omega) (by omega)).2.1.symm) ?_ (fun c j h0 h1 h2 => (zxcj h0 rfl))
                  · have stay : ∀ {I' : ZI}, ruN nr kd a b u = nr → ruF nr rf kd a b u = rf → (∀ c j : Nat, 104 ≤ c ∧ c ≤ 105 → I' c j = I c j) → zRT 104 30 (ruN nr kd a b u) (ruF nr rf kd a b u) I' := fun e1 e2 hf => by rw [e1, e2]; exact zRT_fr hT (fun c j q => hf c j (by omega))
                    first
                    | exact stay (ruV_n (rf := rf) (show ¬ ruOk kd a b u by unfold ruOk; omega)).2.2.1 (ruV_n (rf := rf) (show ¬ ruOk kd a b u by unfold ruOk; omega)).2.2.2 (fun c j h => zxu (by omega) rfl)
                    | exact stay (ruV_f (rf := rf) (show ruOk kd a b u by unfold ruOk; omega) (by omega)).2.2.1 (ruV_f (rf := rf) (show ruOk kd a b u by unfold ruOk; omega) (by omega)).2.2.2 (fun c j h => zxu (by omega) rfl)
                    | (rw [(ruV_y (rf := rf) (show ruOk kd a b u by unfold ruOk; omega) (show nr ≠ 30 by omega)).2.2.1, (ruV_y (rf := rf) (show ruOk kd a b u by unfold ruOk; omega) (show nr ≠ 30 by omega)).2.2.2]
                       exact zRT_fr p94bhT2 (fun c j q => zxu (by omega) rfl))
                · refine And.intro ⟨(by omega), (zRb rfl)⟩ ⟨fun h57 => ?_, fun h57 => ?_⟩
                  · refine And.intro (zA_40 hS) (zrdR (v := some 104) (zR_40_11 hR) ?_)
                    refine And.intro (zA_104 hS) (Exists.intro _ (And.intro (zinl_ok (zT7_2 0)) (And.intro rfl ?_)))
                    refine And.intro (zA_104 hS) (zrd (v := nr) t2 ?_)
                    refine And.intro (zA_104 hS) (zrd (v := 30) t1 ?_)
                    refine And.intro ⟨(by omega), (zRb rfl)⟩ ⟨fun h8_71 => ?_, fun h8_71 => ?_⟩
                    · refine And.intro (Or.inl rfl) ?_
                      refine And.intro (zRb rfl) (zbf rfl ?_)
                      refine And.intro (zA_40 hS) (Exists.intro _ (And.intro (zinl_ok (zT11_1 0)) (And.intro rfl ?_)))
                      refine And.intro (zRb rfl) (zbf rfl ?_)
                      refine And.intro (zA_40 hS) ⟨_, (zWi (zRb rfl)), ?_⟩
                      refine And.intro (zRb rfl) (zbf rfl ?_)
                      refine hQ _ _ (by first | exact (ruV_n (rf := rf) (show ¬ ruOk kd a b u by unfold ruOk; omega)).1.symm | exact (ruV_f (rf := rf) (show ruOk kd a b u by unfold ruOk; omega) (by omega)).1.symm | exact Eq.trans (by omega) (ruV_y (rf := rf) (show ruOk kd a b u by unfold ruOk; omega) (by omega)).1.symm) (by first | exact zxe.trans (ruV_n (rf := rf) (show ¬ ruOk kd a b u by unfold ruOk; omega)).2.1.symm | exact zxe.trans (ruV_f (rf := rf) (show ruOk kd a b u by unfold ruOk; omega) (by omega)).2.1.symm | exact zxe.trans (ruV_y (rf := rf) (show ruOk kd a b u by unfold ruOk; omega) (by omega)).2.1.symm) ?_ (fun c j h0 h1 h2 => (zxcj h0 rfl))
                      · have stay : ∀ {I' : ZI}, ruN nr kd a b u = nr → ruF nr rf kd a b u = rf → (∀ c j : Nat, 104 ≤ c ∧ c ≤ 105 → I' c j = I c j) → zRT 104 30 (ruN nr kd a b u) (ruF nr rf kd a b u) I' := fun e1 e2 hf => by rw [e1, e2]; exact zRT_fr hT (fun c j q => hf c j (by omega))
                        first
                        | exact stay (ruV_n (rf := rf) (show ¬ ruOk kd a b u by unfold ruOk; omega)).2.2.1 (ruV_n (rf := rf) (show ¬ ruOk kd a b u by unfold ruOk; omega)).2.2.2 (fun c j h => zxu (by omega) rfl)
                        | exact stay (ruV_f (rf := rf) (show ruOk kd a b u by unfold ruOk; omega) (by omega)).2.2.1 (ruV_f (rf := rf) (show ruOk kd a b u by unfold ruOk; omega) (by omega)).2.2.2 (fun c j h => zxu (by omega) rfl)
                        | (rw [(ruV_y (rf := rf) (show ruOk kd a b u by unfold ruOk; omega) (show nr ≠ 30 by omega)).2.2.1, (ruV_y (rf := rf) (show ruOk kd a b u by unfold ruOk; omega) (show nr ≠ 30 by omega)).2.2.2]
                           exact zRT_fr p94bhT2 (fun c j q => zxu (by omega) rfl))
                    · refine And.intro (Or.inr rfl) ?_
                      refine And.intro (zRb rfl) (zbt rfl ?_)
                      refine And.intro (zA_40 hS) (zrdR (v := some 104) (zR_40_11 hR) ?_)
                      refine And.intro (zA_104 hS) ⟨_, sn_A_add.up (by decide), ?_⟩
                      refine ⟨104, 30, nr, rf, (kd : Int), (a : Int), (b : Int), (u : Int), (0 : Int), rfl, hS, hR, (zRw_104 hR hS), (by first | exact (zRT_fr hT (fun c j h => rfl)) | (clear hQ; grind [xu])), (by omega), (by omega), ?_⟩
                      intro v94o I94o p94hv p94bhT2 p94bbfr
                      refine And.intro (zA_40 hS) (Exists.intro _ (And.intro (zinl_ok (zT11_1 0)) (And.intro rfl ?_)))
                      refine And.intro (by omega) ⟨fun h2_97 => ?_, (fun h2_97 => False.elim (by omega))⟩
                      refine And.intro (zA_40 hS) ⟨_, (zWi (zRb rfl)), ?_⟩
                      refine And.intro (by omega) ⟨fun h15_97 => ?_, (fun h15_97 => False.elim (by omega))⟩
                      refine hQ _ _ (by first | exact (ruV_n (rf := rf) (show ¬ ruOk kd a b u by unfold ruOk; omega)).1.symm | exact (ruV_f (rf := rf) (show ruOk kd a b u by unfold ruOk; omega) (by omega)).1.symm | exact Eq.trans (by omega) (ruV_y (rf := rf) (show ruOk kd a b u by unfold ruOk; omega) (by omega)).1.symm) (by first | exact zxe.trans (ruV_n (rf := rf) (show ¬ ruOk kd a b u by unfold ruOk; omega)).2.1.symm | exact zxe.trans (ruV_f (rf := rf) (show ruOk kd a b u by unfold ruOk; omega) (by omega)).2.1.symm | exact zxe.trans (ruV_y (rf := rf) (show ruOk kd a b u by unfold ruOk; omega) (by omega)).2.1.symm) ?_ (fun c j h0 h1 h2 => (zxcj h0 ((p94bbfr c j h2 h1).trans rfl)))
                      · have stay : ∀ {I' : ZI}, ruN nr kd a b u = nr → ruF nr rf kd a b u = rf → (∀ c j : Nat, 104 ≤ c ∧ c ≤ 105 → I' c j = I c j) → zRT 104 30 (ruN nr kd a b u) (ruF nr rf kd a b u) I' := fun e1 e2 hf => by rw [e1, e2]; exact zRT_fr hT (fun c j q => hf c j (by omega))
                        first
                        | exact stay (ruV_n (rf := rf) (show ¬ ruOk kd a b u by unfold ruOk; omega)).2.2.1 (ruV_n (rf := rf) (show ¬ ruOk kd a b u by unfold ruOk; omega)).2.2.2 (fun c j h => zxu (by omega) rfl)
                        | exact stay (ruV_f (rf := rf) (show ruOk kd a b u by unfold ruOk; omega) (by omega)).2.2.1 (ruV_f (rf := rf) (show ruOk kd a b u by unfold ruOk; omega) (by omega)).2.2.2 (fun c j h => zxu (by omega) rfl)
                        | (rw [(ruV_y (rf := rf) (show ruOk kd a b u by unfold ruOk; omega) (show nr ≠ 30 by omega)).2.2.1, (ruV_y (rf := rf) (show ruOk kd a b u by unfold ruOk; omega) (show nr ≠ 30 by omega)).2.2.2]
                           exact zRT_fr p94bhT2 (fun c j q => zxu (by omega) rfl))
                  · refine And.intro (zA_40 hS) (Exists.intro _ (And.intro (zinl_ok (zT11_1 0)) (And.intro rfl ?_)))
                    refine And.intro (zRb rfl) (zbf rfl ?_)
                    refine And.intro (zA_40 hS) ⟨_, (zWi (zRb rfl)), ?_⟩
                    refine And.intro (zRb rfl) (zbf rfl ?_)
                    refine hQ _ _ (by first | exact (ruV_n (rf := rf) (show ¬ ruOk kd a b u by unfold ruOk; omega)).1.symm | exact (ruV_f (rf := rf) (show ruOk kd a b u by unfold ruOk; omega) (by omega)).1.symm | exact Eq.trans (by omega) (ruV_y (rf := rf) (show ruOk kd a b u by unfold ruOk; omega) (by omega)).1.symm) (by first | exact zxe.trans (ruV_n (rf := rf) (show ¬ ruOk kd a b u by unfold ruOk; omega)).2.1.symm | exact zxe.trans (ruV_f (rf := rf) (show ruOk kd a b u by unfold ruOk; omega) (by omega)).2.1.symm | exact zxe.trans (ruV_y (rf := rf) (show ruOk kd a b u by unfold ruOk; omega) (by omega)).2.1.symm) ?_ (fun c j h0 h1 h2 => (zxcj h0 rfl))
                    · have stay : ∀ {I' : ZI}, ruN nr kd a b u = nr → ruF nr rf kd a b u = rf → (∀ c j : Nat, 104 ≤ c ∧ c ≤ 105 → I' c j = I c j) → zRT 104 30 (ruN nr kd a b u) (ruF nr rf kd a b u) I' := fun e1 e2 hf => by rw [e1, e2]; exact zRT_fr hT (fun c j q => hf c j (by omega))
                      first
                      | exact stay (ruV_n (rf := rf) (show ¬ ruOk kd a b u by unfold ruOk; omega)).2.2.1 (ruV_n (rf := rf) (show ¬ ruOk kd a b u by unfold ruOk; omega)).2.2.2 (fun c j h => zxu (by omega) rfl)
                      | exact stay (ruV_f (rf := rf) (show ruOk kd a b u by unfold ruOk; omega) (by omega)).2.2.1 (ruV_f (rf := rf) (show ruOk kd a b u by unfold ruOk; omega) (by omega)).2.2.2 (fun c j h => zxu (by omega) rfl)
                      | (rw [(ruV_y (rf := rf) (show ruOk kd a b u by unfold ruOk; omega) (show nr ≠ 30 by omega)).2.2.1, (ruV_y (rf := rf) (show ruOk kd a b u by unfold ruOk; omega) (show nr ≠ 30 by omega)).2.2.2]
                         exact zRT_fr p94bhT2 (fun c j q => zxu (by omega) rfl))
  · refine And.intro (by omega) ⟨(fun h14 => False.elim (by omega)), fun h14 => ?_⟩
    refine And.intro ⟨(by omega), (zRb rfl)⟩ ⟨(fun h19 => False.elim (by omega)), fun h19 => ?_⟩
    refine Exists.intro _ (And.intro (zinl_ok (zT11_24 0)) (And.intro rfl ?_))
    refine And.intro ⟨(by omega), (zRb rfl)⟩ ⟨fun h2_23 => ?_, fun h2_23 => ?_⟩
    · refine And.intro (Or.inl rfl) ?_
      refine And.intro (zRb rfl) (zbt rfl ?_)
      refine And.intro (zRb rfl) (zbt rfl ?_)
      refine And.intro (zA_40 hS) (Exists.intro _ (And.intro (zinl_ok (zT11_1 0)) (And.intro rfl ?_)))
      refine And.intro (zRb rfl) (zbf rfl ?_)
      refine And.intro (zA_40 hS) ⟨_, (zWi (zRb rfl)), ?_⟩
      refine And.intro (zRb rfl) (zbf rfl ?_)
      refine hQ _ _ (by first | exact (ruV_n (rf := rf) (show ¬ ruOk kd a b u by unfold ruOk; omega)).1.symm | exact (ruV_f (rf := rf) (show ruOk kd a b u by unfold ruOk; omega) (by omega)).1.symm | exact Eq.trans (by omega) (ruV_y (rf := rf) (show ruOk kd a b u by unfold ruOk; omega) (by omega)).1.symm) (by first | exact zxe.trans (ruV_n (rf := rf) (show ¬ ruOk kd a b u by unfold ruOk; omega)).2.1.symm | exact zxe.trans (ruV_f (rf := rf) (show ruOk kd a b u by unfold ruOk; omega) (by omega)).2.1.symm | exact zxe.trans (ruV_y (rf := rf) (show ruOk kd a b u by unfold ruOk; omega) (by omega)).2.1.symm) ?_ (fun c j h0 h1 h2 => (zxcj h0 rfl))
      · have stay : ∀ {I' : ZI}, ruN nr kd a b u = nr → ruF nr rf kd a b u = rf → (∀ c j : Nat, 104 ≤ c ∧ c ≤ 105 → I' c j = I c j) → zRT 104 30 (ruN nr kd a b u) (ruF nr rf kd a b u) I' := fun e1 e2 hf => by rw [e1, e2]; exact zRT_fr hT (fun c j q => hf c j (by omega))
        first
        | exact stay (ruV_n (rf := rf) (show ¬ ruOk kd a b u by unfold ruOk; omega)).2.2.1 (ruV_n (rf := rf) (show ¬ ruOk kd a b u by unfold ruOk; omega)).2.2.2 (fun c j h => zxu (by omega) rfl)
        | exact stay (ruV_f (rf := rf) (show ruOk kd a b u by unfold ruOk; omega) (by omega)).2.2.1 (ruV_f (rf := rf) (show ruOk kd a b u by unfold ruOk; omega) (by omega)).2.2.2 (fun c j h => zxu (by omega) rfl)
        | (rw [(ruV_y (rf := rf) (show ruOk kd a b u by unfold ruOk; omega) (show nr ≠ 30 by omega)).2.2.1, (ruV_y (rf := rf) (show ruOk kd a b u by unfold ruOk; omega) (show nr ≠ 30 by omega)).2.2.2]
           exact zRT_fr p94bhT2 (fun c j q => zxu (by omega) rfl))
    · refine And.intro ⟨(by omega), (zRb rfl)⟩ ⟨fun h7_23 => ?_, fun h7_23 => ?_⟩
      · refine And.intro (Or.inl rfl) ?_
        refine And.intro (zRb rfl) (zbt rfl ?_)
        refine And.intro (zRb rfl) (zbt rfl ?_)
        refine And.intro (zA_40 hS) (Exists.intro _ (And.intro (zinl_ok (zT11_1 0)) (And.intro rfl ?_)))
        refine And.intro (zRb rfl) (zbf rfl ?_)
        refine And.intro (zA_40 hS) ⟨_, (zWi (zRb rfl)), ?_⟩
        refine And.intro (zRb rfl) (zbf rfl ?_)
        refine hQ _ _ (by first | exact (ruV_n (rf := rf) (show ¬ ruOk kd a b u by unfold ruOk; omega)).1.symm | exact (ruV_f (rf := rf) (show ruOk kd a b u by unfold ruOk; omega) (by omega)).1.symm | exact Eq.trans (by omega) (ruV_y (rf := rf) (show ruOk kd a b u by unfold ruOk; omega) (by omega)).1.symm) (by first | exact zxe.trans (ruV_n (rf := rf) (show ¬ ruOk kd a b u by unfold ruOk; omega)).2.1.symm | exact zxe.trans (ruV_f (rf := rf) (show ruOk kd a b u by unfold ruOk; omega) (by omega)).2.1.symm | exact zxe.trans (ruV_y (rf := rf) (show ruOk kd a b u by unfold ruOk; omega) (by omega)).2.1.symm) ?_ (fun c j h0 h1 h2 => (zxcj h0 rfl))
        · have stay : ∀ {I' : ZI}, ruN nr kd a b u = nr → ruF nr rf kd a b u = rf → (∀ c j : Nat, 104 ≤ c ∧ c ≤ 105 → I' c j = I c j) → zRT 104 30 (ruN nr kd a b u) (ruF nr rf kd a b u) I' := fun e1 e2 hf => by rw [e1, e2]; exact zRT_fr hT (fun c j q => hf c j (by omega))
          first
          | exact stay (ruV_n (rf := rf) (show ¬ ruOk kd a b u by unfold ruOk; omega)).2.2.1 (ruV_n (rf := rf) (show ¬ ruOk kd a b u by unfold ruOk; omega)).2.2.2 (fun c j h => zxu (by omega) rfl)
          | exact stay (ruV_f (rf := rf) (show ruOk kd a b u by unfold ruOk; omega) (by omega)).2.2.1 (ruV_f (rf := rf) (show ruOk kd a b u by unfold ruOk; omega) (by omega)).2.2.2 (fun c j h => zxu (by omega) rfl)
          | (rw [(ruV_y (rf := rf) (show ruOk kd a b u by unfold ruOk; omega) (show nr ≠ 30 by omega)).2.2.1, (ruV_y (rf := rf) (show ruOk kd a b u by unfold ruOk; omega) (show nr ≠ 30 by omega)).2.2.2]
             exact zRT_fr p94bhT2 (fun c j q => zxu (by omega) rfl))
      · refine And.intro (Or.inr rfl) ?_
        refine And.intro (zRb rfl) (zbf rfl ?_)
        refine Exists.intro _ (And.intro (zinl_ok (zT11_24 0)) (And.intro rfl ?_))
        refine And.intro ⟨(by omega), (zRb rfl)⟩ ⟨fun h2_30 => ?_, fun h2_30 => ?_⟩
        · refine And.intro (Or.inl rfl) ?_
          refine And.intro (zRb rfl) (zbt rfl ?_)
          refine And.intro (zRb rfl) (zbt rfl ?_)
          refine And.intro (zA_40 hS) (Exists.intro _ (And.intro (zinl_ok (zT11_1 0)) (And.intro rfl ?_)))
          refine And.intro (zRb rfl) (zbf rfl ?_)
          refine And.intro (zA_40 hS) ⟨_, (zWi (zRb rfl)), ?_⟩
          refine And.intro (zRb rfl) (zbf rfl ?_)
          refine hQ _ _ (by first | exact (ruV_n (rf := rf) (show ¬ ruOk kd a b u by unfold ruOk; omega)).1.symm | exact (ruV_f (rf := rf) (show ruOk kd a b u by unfold ruOk; omega) (by omega)).1.symm | exact Eq.trans (by omega) (ruV_y (rf := rf) (show ruOk kd a b u by unfold ruOk; omega) (by omega)).1.symm) (by first | exact zxe.trans (ruV_n (rf := rf) (show ¬ ruOk kd a b u by unfold ruOk; omega)).2.1.symm | exact zxe.trans (ruV_f (rf := rf) (show ruOk kd a b u by unfold ruOk; omega) (by omega)).2.1.symm | exact zxe.trans (ruV_y (rf := rf) (show ruOk kd a b u by unfold ruOk; omega) (by omega)).2.1.symm) ?_ (fun c j h0 h1 h2 => (zxcj h0 rfl))
          · have stay : ∀ {I' : ZI}, ruN nr kd a b u = nr → ruF nr rf kd a b u = rf → (∀ c j : Nat, 104 ≤ c ∧ c ≤ 105 → I' c j = I c j) → zRT 104 30 (ruN nr kd a b u) (ruF nr rf kd a b u) I' := fun e1 e2 hf => by rw [e1, e2]; exact zRT_fr hT (fun c j q => hf c j (by omega))
            first
            | exact stay (ruV_n (rf := rf) (show ¬ ruOk kd a b u by unfold ruOk; omega)).2.2.1 (ruV_n (rf := rf) (show ¬ ruOk kd a b u by unfold ruOk; omega)).2.2.2 (fun c j h => zxu (by omega) rfl)
            | exact stay (ruV_f (rf := rf) (show ruOk kd a b u by unfold ruOk; omega) (by omega)).2.2.1 (ruV_f (rf := rf) (show ruOk kd a b u by unfold ruOk; omega) (by omega)).2.2.2 (fun c j h => zxu (by omega) rfl)
            | (rw [(ruV_y (rf := rf) (show ruOk kd a b u by unfold ruOk; omega) (show nr ≠ 30 by omega)).2.2.1, (ruV_y (rf := rf) (show ruOk kd a b u by unfold ruOk; omega) (show nr ≠ 30 by omega)).2.2.2]
               exact zRT_fr p94bhT2 (fun c j q => zxu (by omega) rfl))
        · refine And.intro ⟨(by omega), (zRb rfl)⟩ ⟨fun h7_30 => ?_, fun h7_30 => ?_⟩
          · refine And.intro (Or.inl rfl) ?_
            refine And.intro (zRb rfl) (zbt rfl ?_)
            refine And.intro (zRb rfl) (zbt rfl ?_)
            refine And.intro (zA_40 hS) (Exists.intro _ (And.intro (zinl_ok (zT11_1 0)) (And.intro rfl ?_)))
            refine And.intro (zRb rfl) (zbf rfl ?_)
            refine And.intro (zA_40 hS) ⟨_, (zWi (zRb rfl)), ?_⟩
            refine And.intro (zRb rfl) (zbf rfl ?_)
            refine hQ _ _ (by first | exact (ruV_n (rf := rf) (show ¬ ruOk kd a b u by unfold ruOk; omega)).1.symm | exact (ruV_f (rf := rf) (show ruOk kd a b u by unfold ruOk; omega) (by omega)).1.symm | exact Eq.trans (by omega) (ruV_y (rf := rf) (show ruOk kd a b u by unfold ruOk; omega) (by omega)).1.symm) (by first | exact zxe.trans (ruV_n (rf := rf) (show ¬ ruOk kd a b u by unfold ruOk; omega)).2.1.symm | exact zxe.trans (ruV_f (rf := rf) (show ruOk kd a b u by unfold ruOk; omega) (by omega)).2.1.symm | exact zxe.trans (ruV_y (rf := rf) (show ruOk kd a b u by unfold ruOk; omega) (by omega)).2.1.symm) ?_ (fun c j h0 h1 h2 => (zxcj h0 rfl))
            · have stay : ∀ {I' : ZI}, ruN nr kd a b u = nr → ruF nr rf kd a b u = rf → (∀ c j : Nat, 104 ≤ c ∧ c ≤ 105 → I' c j = I c j) → zRT 104 30 (ruN nr kd a b u) (ruF nr rf kd a b u) I' := fun e1 e2 hf => by rw [e1, e2]; exact zRT_fr hT (fun c j q => hf c j (by omega))
              first
              | exact stay (ruV_n (rf := rf) (show ¬ ruOk kd a b u by unfold ruOk; omega)).2.2.1 (ruV_n (rf := rf) (show ¬ ruOk kd a b u by unfold ruOk; omega)).2.2.2 (fun c j h => zxu (by omega) rfl)
              | exact stay (ruV_f (rf := rf) (show ruOk kd a b u by unfold ruOk; omega) (by omega)).2.2.1 (ruV_f (rf := rf) (show ruOk kd a b u by unfold ruOk; omega) (by omega)).2.2.2 (fun c j h => zxu (by omega) rfl)
              | (rw [(ruV_y (rf := rf) (show ruOk kd a b u by unfold ruOk; omega) (show nr ≠ 30 by omega)).2.2.1, (ruV_y (rf := rf) (show ruOk kd a b u by unfold ruOk; omega) (show nr ≠ 30 by omega)).2.2.2]
                 exact zRT_fr p94bhT2 (fun c j q => zxu (by omega) rfl))
          · refine And.intro (Or.inr rfl) ?_
            refine And.intro (zRb rfl) (zbf rfl ?_)
            refine And.intro (zRb rfl) (zbf rfl ?_)
            refine And.intro (by omega) ⟨fun h50 => ?_, fun h50 => ?_⟩
            · refine And.intro (zA_40 hS) (Exists.intro _ (And.intro (zinl_ok (zT11_1 0)) (And.intro rfl ?_)))
              refine And.intro (zRb rfl) (zbf rfl ?_)
              refine And.intro (zA_40 hS) ⟨_, (zWi (zRb rfl)), ?_⟩
              refine And.intro (zRb rfl) (zbf rfl ?_)
              refine hQ _ _ (by first | exact (ruV_n (rf := rf) (show ¬ ruOk kd a b u by unfold ruOk; omega)).1.symm | exact (ruV_f (rf := rf) (show ruOk kd a b u by unfold ruOk; omega) (by omega)).1.symm | exact Eq.trans (by omega) (ruV_y (rf := rf) (show ruOk kd a b u by unfold ruOk; omega) (by omega)).1.symm) (by first | exact zxe.trans (ruV_n (rf := rf) (show ¬ ruOk kd a b u by unfold ruOk; omega)).2.1.symm | exact zxe.trans (ruV_f (rf := rf) (show ruOk kd a b u by unfold ruOk; omega) (by omega)).2.1.symm | exact zxe.trans (ruV_y (rf := rf) (show ruOk kd a b u by unfold ruOk; omega) (by omega)).2.1.symm) ?_ (fun c j h0 h1 h2 => (zxcj h0 rfl))
              · have stay : ∀ {I' : ZI}, ruN nr kd a b u = nr → ruF nr rf kd a b u = rf → (∀ c j : Nat, 104 ≤ c ∧ c ≤ 105 → I' c j = I c j) → zRT 104 30 (ruN nr kd a b u) (ruF nr rf kd a b u) I' := fun e1 e2 hf => by rw [e1, e2]; exact zRT_fr hT (fun c j q => hf c j (by omega))
                first
                | exact stay (ruV_n (rf := rf) (show ¬ ruOk kd a b u by unfold ruOk; omega)).2.2.1 (ruV_n (rf := rf) (show ¬ ruOk kd a b u by unfold ruOk; omega)).2.2.2 (fun c j h => zxu (by omega) rfl)
                | exact stay (ruV_f (rf := rf) (show ruOk kd a b u by unfold ruOk; omega) (by omega)).2.2.1 (ruV_f (rf := rf) (show ruOk kd a b u by unfold ruOk; omega) (by omega)).2.2.2 (fun c j h => zxu (by omega) rfl)
                | (rw [(ruV_y (rf := rf) (show ruOk kd a b u by unfold ruOk; omega) (show nr ≠ 30 by omega)).2.2.1, (ruV_y (rf := rf) (show ruOk kd a b u by unfold ruOk; omega) (show nr ≠ 30 by omega)).2.2.2]
                   exact zRT_fr p94bhT2 (fun c j q => zxu (by omega) rfl))
            · refine And.intro ⟨(by omega), (zRb rfl)⟩ ⟨fun h57 => ?_, fun h57 => ?_⟩
              · refine And.intro (zA_40 hS) (zrdR (v := some 104) (zR_40_11 hR) ?_)
                refine And.intro (zA_104 hS) (Exists.intro _ (And.intro (zinl_ok (zT7_2 0)) (And.intro rfl ?_)))
                refine And.intro (zA_104 hS) (zrd (v := nr) t2 ?_)
                refine And.intro (zA_104 hS) (zrd (v := 30) t1 ?_)
                refine And.intro ⟨(by omega), (zRb rfl)⟩ ⟨fun h8_71 => ?_, fun h8_71 => ?_⟩
                · refine And.intro (Or.inl rfl) ?_
                  refine And.intro (zRb rfl) (zbf rfl ?_)
                  refine And.intro (zA_40 hS) (Exists.intro _ (And.intro (zinl_ok (zT11_1 0)) (And.intro rfl ?_)))
                  refine And.intro (zRb rfl) (zbf rfl ?_)
                  refine And.intro (zA_40 hS) ⟨_, (zWi (zRb rfl)), ?_⟩
                  refine And.intro (zRb rfl) (zbf rfl ?_)
                  refine hQ _ _ (by first | exact (ruV_n (rf := rf) (show ¬ ruOk kd a b u by unfold ruOk; omega)).1.symm | exact (ruV_f (rf := rf) (show ruOk kd a b u by unfold ruOk; omega) (by omega)).1.symm | exact Eq.trans (by omega) (ruV_y (rf := rf) (show ruOk kd a b u by unfold ruOk; omega) (by omega)).1.symm) (by first | exact zxe.trans (ruV_n (rf := rf) (show ¬ ruOk kd a b u by unfold ruOk; omega)).2.1.symm | exact zxe.trans (ruV_f (rf := rf) (show ruOk kd a b u by unfold ruOk; omega) (by omega)).2.1.symm | exact zxe.trans (ruV_y (rf := rf) (show ruOk kd a b u by unfold ruOk; omega) (by omega)).2.1.symm) ?_ (fun c j h0 h1 h2 => (zxcj h0 rfl))
                  · have stay : ∀ {I' : ZI}, ruN nr kd a b u = nr → ruF nr rf kd a b u = rf → (∀ c j : Nat, 104 ≤ c ∧ c ≤ 105 → I' c j = I c j) → zRT 104 30 (ruN nr kd a b u) (ruF nr rf kd a b u) I' := fun e1 e2 hf => by rw [e1, e2]; exact zRT_fr hT (fun c j q => hf c j (by omega))
                    first
                    | exact stay (ruV_n (rf := rf) (show ¬ ruOk kd a b u by unfold ruOk; omega)).2.2.1 (ruV_n (rf := rf) (show ¬ ruOk kd a b u by unfold ruOk; omega)).2.2.2 (fun c j h => zxu (by omega) rfl)
                    | exact stay (ruV_f (rf := rf) (show ruOk kd a b u by unfold ruOk; omega) (by omega)).2.2.1 (ruV_f (rf := rf) (show ruOk kd a b u by unfold ruOk; omega) (by omega)).2.2.2 (fun c j h => zxu (by omega) rfl)
                    | (rw [(ruV_y (rf := rf) (show ruOk kd a b u by unfold ruOk; omega) (show nr ≠ 30 by omega)).2.2.1, (ruV_y (rf := rf) (show ruOk kd a b u by unfold ruOk; omega) (show nr ≠ 30 by omega)).2.2.2]
                       exact zRT_fr p94bhT2 (fun c j q => zxu (by omega) rfl))
                · refine And.intro (Or.inr rfl) ?_
                  refine And.intro (zRb rfl) (zbt rfl ?_)
                  refine And.intro (zA_40 hS) (zrdR (v := some 104) (zR_40_11 hR) ?_)
                  refine And.intro (zA_104 hS) ⟨_, sn_A_add.up (by decide), ?_⟩
                  refine ⟨104, 30, nr, rf, (kd : Int), (a : Int), (b : Int), (u : Int), (0 : Int), rfl, hS, hR, (zRw_104 hR hS), (by first | exact (zRT_fr hT (fun c j h => rfl)) | (clear hQ; grind [xu])), (by omega), (by omega), ?_⟩
                  intro v94o I94o p94hv p94bhT2 p94bbfr
                  refine And.intro (zA_40 hS) (Exists.intro _ (And.intro (zinl_ok (zT11_1 0)) (And.intro rfl ?_)))
                  refine And.intro (by omega) ⟨fun h2_97 => ?_, (fun h2_97 => False.elim (by omega))⟩
                  refine And.intro (zA_40 hS) ⟨_, (zWi (zRb rfl)), ?_⟩
                  refine And.intro (by omega) ⟨fun h15_97 => ?_, (fun h15_97 => False.elim (by omega))⟩
                  refine hQ _ _ (by first | exact (ruV_n (rf := rf) (show ¬ ruOk kd a b u by unfold ruOk; omega)).1.symm | exact (ruV_f (rf := rf) (show ruOk kd a b u by unfold ruOk; omega) (by omega)).1.symm | exact Eq.trans (by omega) (ruV_y (rf := rf) (show ruOk kd a b u by unfold ruOk; omega) (by omega)).1.symm) (by first | exact zxe.trans (ruV_n (rf := rf) (show ¬ ruOk kd a b u by unfold ruOk; omega)).2.1.symm | exact zxe.trans (ruV_f (rf := rf) (show ruOk kd a b u by unfold ruOk; omega) (by omega)).2.1.symm | exact zxe.trans (ruV_y (rf := rf) (show ruOk kd a b u by unfold ruOk; omega) (by omega)).2.1.symm) ?_ (fun c j h0 h1 h2 => (zxcj h0 ((p94bbfr c j h2 h1).trans rfl)))
                  · have stay : ∀ {I' : ZI}, ruN nr kd a b u = nr → ruF nr rf kd a b u = rf → (∀ c j : Nat, 104 ≤ c ∧ c ≤ 105 → I' c j = I c j) → zRT 104 30 (ruN nr kd a b u) (ruF nr rf kd a b u) I' := fun e1 e2 hf => by rw [e1, e2]; exact zRT_fr hT (fun c j q => hf c j (by omega))
                    first
                    | exact stay (ruV_n (rf := rf) (show ¬ ruOk kd a b u by unfold ruOk; omega)).2.2.1 (ruV_n (rf := rf) (show ¬ ruOk kd a b u by unfold ruOk; omega)).2.2.2 (fun c j h => zxu (by omega) rfl)
                    | exact stay (ruV_f (rf := rf) (show ruOk kd a b u by unfold ruOk; omega) (by omega)).2.2.1 (ruV_f (rf := rf) (show ruOk kd a b u by unfold ruOk; omega) (by omega)).2.2.2 (fun c j h => zxu (by omega) rfl)
                    | (rw [(ruV_y (rf := rf) (show ruOk kd a b u by unfold ruOk; omega) (show nr ≠ 30 by omega)).2.2.1, (ruV_y (rf := rf) (show ruOk kd a b u by unfold ruOk; omega) (show nr ≠ 30 by omega)).2.2.2]
                       exact zRT_fr p94bhT2 (fun c j q => zxu (by omega) rfl))
              · refine And.intro (zA_40 hS) (Exists.intro _ (And.intro (zinl_ok (zT11_1 0)) (And.intro rfl ?_)))
                refine And.intro (zRb rfl) (zbf rfl ?_)
                refine And.intro (zA_40 hS) ⟨_, (zWi (zRb rfl)), ?_⟩
                refine And.intro (zRb rfl) (zbf rfl ?_)
                refine hQ _ _ (by first | exact (ruV_n (rf := rf) (show ¬ ruOk kd a b u by unfold ruOk; omega)).1.symm | exact (ruV_f (rf := rf) (show ruOk kd a b u by unfold ruOk; omega) (by omega)).1.symm | exact Eq.trans (by omega) (ruV_y (rf := rf) (show ruOk kd a b u by unfold ruOk; omega) (by omega)).1.symm) (by first | exact zxe.trans (ruV_n (rf := rf) (show ¬ ruOk kd a b u by unfold ruOk; omega)).2.1.symm | exact zxe.trans (ruV_f (rf := rf) (show ruOk kd a b u by unfold ruOk; omega) (by omega)).2.1.symm | exact zxe.trans (ruV_y (rf := rf) (show ruOk kd a b u by unfold ruOk; omega) (by omega)).2.1.symm) ?_ (fun c j h0 h1 h2 => (zxcj h0 rfl))
                · have stay : ∀ {I' : ZI}, ruN nr kd a b u = nr → ruF nr rf kd a b u = rf → (∀ c j : Nat, 104 ≤ c ∧ c ≤ 105 → I' c j = I c j) → zRT 104 30 (ruN nr kd a b u) (ruF nr rf kd a b u) I' := fun e1 e2 hf => by rw [e1, e2]; exact zRT_fr hT (fun c j q => hf c j (by omega))
                  first
                  | exact stay (ruV_n (rf := rf) (show ¬ ruOk kd a b u by unfold ruOk; omega)).2.2.1 (ruV_n (rf := rf) (show ¬ ruOk kd a b u by unfold ruOk; omega)).2.2.2 (fun c j h => zxu (by omega) rfl)
                  | exact stay (ruV_f (rf := rf) (show ruOk kd a b u by unfold ruOk; omega) (by omega)).2.2.1 (ruV_f (rf := rf) (show ruOk kd a b u by unfold ruOk; omega) (by omega)).2.2.2 (fun c j h => zxu (by omega) rfl)
                  | (rw [(ruV_y (rf := rf) (show ruOk kd a b u by unfold ruOk; omega) (show nr ≠ 30 by omega)).2.2.1, (ruV_y (rf := rf) (show ruOk kd a b u by unfold ruOk; omega) (show nr ≠ 30 by omega)).2.2.2]
                     exact zRT_fr p94bhT2 (fun c j q => zxu (by omega) rfl)))
def T_X_tol : ZT := fun args I L R S Q => ∃ (k : Nat), args = [zvr k, zvl 300, zvi 1] ∧ (zSh S) ∧ (zRs R) ∧ (zDy zT16 zF16 k R S) ∧ (I (k + 1) 0 = 0) ∧ ∀ (v : Int) (I' : ZI) (L' : ZI), (I' (k + 1) 0 = 1) → (∀ c j : Nat, ¬ (c = k ∧ j = 0) → ¬ c = k + 1 → ¬ c = k + 3 → I' c j = I c j) → (∀ c j : Nat, ¬ c = k + 2 → L' c j = L c j) → Q (some (zvi (v))) I' L' R S
theorem sn_X_tol : ZSnd 2 16 29 T_X_tol := ZSnd.of (zT16_29 1) (by
  rintro args I L R S Q hz ⟨k, rfl, hS, hR, hd, h0, hQ⟩
  have hk5 := hd.1
  refine And.intro rfl ?_
  refine Exists.intro _ (And.intro (zinl_ok (zT16_10 0)) (And.intro rfl ?_))
  refine ⟨_, _, ⟨zW6i (zRL rfl), zW6i (zRL rfl)⟩, fun z2_2 c2_2 => ?_⟩
  refine And.intro c2_2.2.2 ⟨(fun h3_2 => False.elim (by omega)), fun h3_2 => ?_⟩
  refine ⟨_, _, ⟨zW6i (zRL rfl), zW6i (zRL rfl)⟩, fun z10_2 c10_2 => ?_⟩
  refine And.intro c10_2.2.2 ⟨(fun h11_2 => False.elim (by omega)), fun h11_2 => ?_⟩
  refine And.intro (Or.inr rfl) ?_
  refine And.intro (zRb rfl) (zbf rfl ?_)
  refine And.intro (zDX hd 0 rfl) ⟨_, (zWi (zRb rfl)), ?_⟩
  refine And.intro (zDX hd 0 rfl) (zrd (v := 0) zxe ?_)
  refine And.intro (zRb rfl) (zbt rfl ?_)
  refine And.intro (zDX hd 0 rfl) (zrdR (v := some (k + 1)) (zDR hd 0 rfl) ?_)
  refine And.intro (zDP hd 1 rfl rfl (by omega) (by omega)) (zrd (v := 0) (zxu (by omega) h0) ?_)
  refine And.intro ⟨(zRb rfl), (zRb rfl)⟩ (zbt rfl ?_)
  refine And.intro (zDX hd 0 rfl) (Exists.intro _ (And.intro (zinl_ok (zT16_1 0)) (And.intro rfl ?_)))
  refine And.intro (zDX hd 0 rfl) (zrdR (v := some (k + 2)) (zDR hd 1 rfl) ?_)
  refine And.intro (zDX hd 0 rfl) (zrdR (v := some (k + 1)) (zDR hd 0 rfl) ?_)
  refine And.intro (zDP hd 1 rfl rfl (by omega) (by omega)) (zrd (v := 0) (zxu (by omega) h0) ?_)
  refine And.intro ⟨(by show 40 ≤ _; omega), (zDP hd 2 rfl rfl (by omega) (by omega))⟩ ⟨_, zW6i (zRL rfl), ?_⟩
  refine And.intro (zDX hd 0 rfl) (zrdR (v := some (k + 3)) (zDR hd 2 rfl) ?_)
  refine And.intro (zDX hd 0 rfl) (zrdR (v := some (k + 1)) (zDR hd 0 rfl) ?_)
  refine And.intro (zDP hd 1 rfl rfl (by omega) (by omega)) (zrd (v := 0) (zxu (by omega) h0) ?_)
  refine And.intro ⟨(by show 40 ≤ _; omega), Or.inr ⟨(zDP hd 3 rfl rfl (by omega) (by omega)), (Or.inr rfl)⟩⟩ ?_
  refine And.intro (zDX hd 0 rfl) (zrdR (v := some (k + 1)) (zDR hd 0 rfl) ?_)
  refine And.intro (zDP hd 1 rfl rfl (by omega) (by omega)) (zrd (v := 0) (zxu (by omega) (zxu (by omega) h0)) ?_)
  refine And.intro ⟨(by show 40 ≤ _; omega), (zDP hd 1 rfl rfl (by omega) (by omega))⟩ ⟨_, (zWi (zRb rfl)), ?_⟩
  refine And.intro (zDX hd 0 rfl) (zrdR (v := some (k + 1)) (zDR hd 0 rfl) ?_)
  refine And.intro (zDP hd 1 rfl rfl (by omega) (by omega)) (zrd (v := (0 + 1)) zxe ?_)
  refine hQ _ _ _ (by first | exact zxe | exact zxe.trans (by omega)) (fun c j h0 h1 h2 => (zxu h1 (zxu h2 (zxcj h0 rfl)))) (fun c j h0 => (zxu h0 rfl)))
