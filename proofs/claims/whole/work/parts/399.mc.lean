/-! mc -/
def T_A_mcost0 : ZT := fun args I L R S Q => ∃ (l : Int) (a : Int) (y : Int) (n : Int), args = [zvr 40, zvi l, zvi a, zvi y, zvi n] ∧ (zSh S) ∧ (zRs R) ∧ (I 82 0 = -1) ∧ ∀ (I' : ZI), (I' 40 3 = 3) → (∀ c j : Nat, ¬ (c = 40 ∧ j = 3) → I' c j = I c j) → Q (some (zvi (0))) I' L R S
theorem sn_A_mcost0 : ZSnd 3 11 8 T_A_mcost0 := ZSnd.of (zT11_8 2) (by
  rintro args I L R S Q hz ⟨l, a, y, n, rfl, hS, hR, hb0, hQ⟩
  refine And.intro rfl ?_
  refine And.intro (zA_40 hS) (zrdR (v := some 82) (zR_40_9 hR) ?_)
  refine And.intro (zA_82 hS) (zrd (v := (-1)) hb0 ?_)
  refine And.intro ⟨(zRb rfl), (zRb rfl)⟩ (zbf rfl ?_)
  refine And.intro (zA_40 hS) (Exists.intro _ (And.intro (zinl_ok (zT11_22 1)) (And.intro rfl ?_)))
  refine And.intro (zA_40 hS) (Exists.intro _ (And.intro (zinl_ok (zT11_1 0)) (And.intro rfl ?_)))
  refine And.intro (zRb rfl) (zbf rfl ?_)
  refine And.intro (zA_40 hS) ⟨_, (zWi (zRb rfl)), ?_⟩
  refine And.intro (zRb rfl) (zbf rfl ?_)
  refine And.intro ⟨(zRb rfl), (zRb rfl)⟩ (zbt rfl ?_)
  refine And.intro (Or.inl rfl) ?_
  refine And.intro (Or.inl rfl) ?_
  refine hQ _ zxe (fun c j h0 => (zxcj h0 rfl)))
def T_A_mcost : ZT := fun args I L R S Q => ∃ (b : Nat) (s : BdS) (l : Int) (a : Int) (y : Int) (n : Int), args = [zvr 40, zvi l, zvi a, zvi y, zvi n] ∧ (zSh S) ∧ (zRs R) ∧ (zBA b s I L) ∧ (bGz s) ∧ (1 ≤ b ∧ b ≤ 6) ∧ (r32 l ∧ r32 a ∧ r32 y ∧ r32 n) ∧ ∀ (v : Int) (I' : ZI), (v = if (0 ≤ l ∧ l < bD s ∧ 0 ≤ a ∧ a ≤ 50 ∧ 0 ≤ y ∧ y ≤ 50 ∧ 0 ≤ n ∧ n ≤ 50) then 1 else 0) → (I' 40 3 = if (0 ≤ l ∧ l < bD s ∧ 0 ≤ a ∧ a ≤ 50 ∧ 0 ≤ y ∧ y ≤ 50 ∧ 0 ≤ n ∧ n ≤ 50) then 0 else 2) → (zBA b (if (0 ≤ l ∧ l < bD s ∧ 0 ≤ a ∧ a ≤ 50 ∧ 0 ≤ y ∧ y ≤ 50 ∧ 0 ≤ n ∧ n ≤ 50) then bCst s l.toNat a.toNat y.toNat n.toNat else s) I' L) → (∀ c j : Nat, ¬ c = 94 → ¬ c = 95 → ¬ c = 96 → ¬ (c = 40 ∧ j = 3) → I' c j = I c j) → Q (some (zvi (v))) I' L R S
theorem sn_A_mcost : ZSnd 3 11 8 T_A_mcost := ZSnd.of (zT11_8 2) (by
  rintro args I L R S Q hz ⟨b, s, l, a, y, n, rfl, hS, hR, hBA, hGz, hb1, hr, hQ⟩
  obtain ⟨⟨hb0, hbw, hbh, hbd, hbs⟩, hnb, hcl, hPT, hNT, hwy, hco, hnd⟩ := id hBA
  obtain ⟨hP1, hP2, hP3, hP4⟩ := id hPT
  obtain ⟨hN1, hN2, hN3, hN4⟩ := id hNT
  obtain ⟨⟨⟨gW1, gW2⟩, ⟨gH1, gH2⟩, ⟨gD1, gD2⟩, gB9⟩, ⟨gnp, gnn⟩, gco⟩ := id hGz
  refine And.intro rfl ?_
  refine And.intro (zA_40 hS) (zrdR (v := some 82) (zR_40_9 hR) ?_)
  refine And.intro (zA_82 hS) (zrd (v := (b - 1)) hb0 ?_)
  refine And.intro ⟨(by omega), (zRb rfl)⟩ ⟨fun h8 => ?_, (fun h8 => False.elim (by omega))⟩
  refine Exists.intro _ (And.intro (zinl_ok (zT11_25 1)) (And.intro rfl ?_))
  refine And.intro (by omega) ⟨fun h1_19 => ?_, fun h1_19 => ?_⟩
  · refine And.intro (Or.inl rfl) ?_
    refine And.intro (zRb rfl) (zbt rfl ?_)
    refine And.intro (by omega) ⟨fun h48 => ?_, fun h48 => ?_⟩
    · refine And.intro (zA_40 hS) (Exists.intro _ (And.intro (zinl_ok (zT11_22 1)) (And.intro rfl ?_)))
      refine And.intro (zA_40 hS) (Exists.intro _ (And.intro (zinl_ok (zT11_1 0)) (And.intro rfl ?_)))
      refine And.intro (zRb rfl) (zbf rfl ?_)
      refine And.intro (zA_40 hS) ⟨_, (zWi (zRb rfl)), ?_⟩
      refine And.intro (zRb rfl) (zbf rfl ?_)
      refine And.intro ⟨(zRb rfl), (zRb rfl)⟩ (zbt rfl ?_)
      refine And.intro (Or.inl rfl) ?_
      refine And.intro (Or.inl rfl) ?_
      refine hQ _ _ ?_ ?_ ?_ (fun c j h0 h1 h2 h3 => (zxcj h3 rfl))
      · first
        | (rw [if_pos (by omega)]
           try first
           | rfl
           | exact zxe)
        | (rw [if_neg (by omega)]
           try first
           | rfl
           | exact zxe)
      · first
        | (rw [if_pos (by omega)]
           try first
           | rfl
           | exact zxe)
        | (rw [if_neg (by omega)]
           try first
           | rfl
           | exact zxe)
      · first
        | (rw [if_pos (by omega)]
           exact zBA_fr p83hBA2 (fun c j h => zxcj (by omega) rfl) (fun c j h => rfl))
        | (rw [if_neg (by omega)]
           exact zBA_fr hBA (fun c j h => zxcj (by omega) rfl) (fun c j h => rfl))
    · refine And.intro (zA_40 hS) (zrdR (v := some 82) (zR_40_9 hR) ?_)
      refine And.intro (zA_82 hS) (zrd (v := (bD s)) hbd ?_)
      refine And.intro ⟨(by omega), (by omega)⟩ ⟨fun h59 => ?_, fun h59 => ?_⟩
      · refine And.intro (zA_40 hS) (Exists.intro _ (And.intro (zinl_ok (zT11_22 1)) (And.intro rfl ?_)))
        refine And.intro (zA_40 hS) (Exists.intro _ (And.intro (zinl_ok (zT11_1 0)) (And.intro rfl ?_)))
        refine And.intro (zRb rfl) (zbf rfl ?_)
        refine And.intro (zA_40 hS) ⟨_, (zWi (zRb rfl)), ?_⟩
        refine And.intro (zRb rfl) (zbf rfl ?_)
        refine And.intro ⟨(zRb rfl), (zRb rfl)⟩ (zbt rfl ?_)
        refine And.intro (Or.inl rfl) ?_
        refine And.intro (Or.inl rfl) ?_
        refine hQ _ _ ?_ ?_ ?_ (fun c j h0 h1 h2 h3 => (zxcj h3 rfl))
        · first
          | (rw [if_pos (by omega)]
             try first
             | rfl
             | exact zxe)
          | (rw [if_neg (by omega)]
             try first
             | rfl
             | exact zxe)
        · first
          | (rw [if_pos (by omega)]
             try first
             | rfl
             | exact zxe)
          | (rw [if_neg (by omega)]
             try first
             | rfl
             | exact zxe)
        · first
          | (rw [if_pos (by omega)]
             exact zBA_fr p83hBA2 (fun c j h => zxcj (by omega) rfl) (fun c j h => rfl))
          | (rw [if_neg (by omega)]
             exact zBA_fr hBA (fun c j h => zxcj (by omega) rfl) (fun c j h => rfl))
      · refine And.intro (zRb rfl) (zbf rfl ?_)
        refine And.intro (zA_40 hS) (Exists.intro _ (And.intro (zinl_ok (zT11_22 1)) (And.intro rfl ?_)))
        refine And.intro (zA_40 hS) (Exists.intro _ (And.intro (zinl_ok (zT11_1 0)) (And.intro rfl ?_)))
        refine And.intro (zRb rfl) (zbf rfl ?_)
        refine And.intro (zA_40 hS) ⟨_, (zWi (zRb rfl)), ?_⟩
        refine And.intro (zRb rfl) (zbf rfl ?_)
        refine And.intro ⟨(zRb rfl), (zRb rfl)⟩ (zbt rfl ?_)
        refine And.intro (Or.inl rfl) ?_
        refine And.intro (Or.inl rfl) ?_
        refine hQ _ _ ?_ ?_ ?_ (fun c j h0 h1 h2 h3 => (zxcj h3 rfl))
        · first
          | (rw [if_pos (by omega)]
             try first
             | rfl
             | exact zxe)
          | (rw [if_neg (by omega)]
             try first
             | rfl
             | exact zxe)
        · first
          | (rw [if_pos (by omega)]
             try first
             | rfl
             | exact zxe)
          | (rw [if_neg (by omega)]
             try first
             | rfl
             | exact zxe)
        · first
          | (rw [if_pos (by omega)]
             exact zBA_fr p83hBA2 (fun c j h => zxcj (by omega) rfl) (fun c j h => rfl))
          | (rw [if_neg (by omega)]
             exact zBA_fr hBA (fun c j h => zxcj (by omega) rfl) (fun c j h => rfl))
  · refine And.intro ⟨(by omega), (zRb rfl)⟩ ⟨fun h7_19 => ?_, fun h7_19 => ?_⟩
    · refine And.intro (Or.inl rfl) ?_
      refine And.intro (zRb rfl) (zbt rfl ?_)
      refine And.intro (by omega) ⟨fun h48 => ?_, fun h48 => ?_⟩
      · refine And.intro (zA_40 hS) (Exists.intro _ (And.intro (zinl_ok (zT11_22 1)) (And.intro rfl ?_)))
        refine And.intro (zA_40 hS) (Exists.intro _ (And.intro (zinl_ok (zT11_1 0)) (And.intro rfl ?_)))
        refine And.intro (zRb rfl) (zbf rfl ?_)
        refine And.intro (zA_40 hS) ⟨_, (zWi (zRb rfl)), ?_⟩
        refine And.intro (zRb rfl) (zbf rfl ?_)
        refine And.intro ⟨(zRb rfl), (zRb rfl)⟩ (zbt rfl ?_)
        refine And.intro (Or.inl rfl) ?_
        refine And.intro (Or.inl rfl) ?_
        refine hQ _ _ ?_ ?_ ?_ (fun c j h0 h1 h2 h3 => (zxcj h3 rfl))
        · first
          | (rw [if_pos (by omega)]
             try first
             | rfl
             | exact zxe)
          | (rw [if_neg (by omega)]
             try first
             | rfl
             | exact zxe)
        · first
          | (rw [if_pos (by omega)]
             try first
             | rfl
             | exact zxe)
          | (rw [if_neg (by omega)]
             try first
             | rfl
             | exact zxe)
        · first
          | (rw [if_pos (by omega)]
             exact zBA_fr p83hBA2 (fun c j h => zxcj (by omega) rfl) (fun c j h => rfl))
          | (rw [if_neg (by omega)]
             exact zBA_fr hBA (fun c j h => zxcj (by omega) rfl) (fun c j h => rfl))
      · refine And.intro (zA_40 hS) (zrdR (v := some 82) (zR_40_9 hR) ?_)
        refine And.intro (zA_82 hS) (zrd (v := (bD s)) hbd ?_)
        refine And.intro ⟨(by omega), (by omega)⟩ ⟨fun h59 => ?_, fun h59 => ?_⟩
        · refine And.intro (zA_40 hS) (Exists.intro _ (And.intro (zinl_ok (zT11_22 1)) (And.intro rfl ?_)))
          refine And.intro (zA_40 hS) (Exists.intro _ (And.intro (zinl_ok (zT11_1 0)) (And.intro rfl ?_)))
          refine And.intro (zRb rfl) (zbf rfl ?_)
          refine And.intro (zA_40 hS) ⟨_, (zWi (zRb rfl)), ?_⟩
          refine And.intro (zRb rfl) (zbf rfl ?_)
          refine And.intro ⟨(zRb rfl), (zRb rfl)⟩ (zbt rfl ?_)
          refine And.intro (Or.inl rfl) ?_
          refine And.intro (Or.inl rfl) ?_
          refine hQ _ _ ?_ ?_ ?_ (fun c j h0 h1 h2 h3 => (zxcj h3 rfl))
          · first
            | (rw [if_pos (by omega)]
               try first
               | rfl
               | exact zxe)
            | (rw [if_neg (by omega)]
               try first
               | rfl
               | exact zxe)
          · first
            | (rw [if_pos (by omega)]
               try first
               | rfl
               | exact zxe)
            | (rw [if_neg (by omega)]
               try first
               | rfl
               | exact zxe)
          · first
            | (rw [if_pos (by omega)]
               exact zBA_fr p83hBA2 (fun c j h => zxcj (by omega) rfl) (fun c j h => rfl))
            | (rw [if_neg (by omega)]
               exact zBA_fr hBA (fun c j h => zxcj (by omega) rfl) (fun c j h => rfl))
        · refine And.intro (zRb rfl) (zbf rfl ?_)
          refine And.intro (zA_40 hS) (Exists.intro _ (And.intro (zinl_ok (zT11_22 1)) (And.intro rfl ?_)))
          refine And.intro (zA_40 hS) (Exists.intro _ (And.intro (zinl_ok (zT11_1 0)) (And.intro rfl ?_)))
          refine And.intro (zRb rfl) (zbf rfl ?_)
          refine And.intro (zA_40 hS) ⟨_, (zWi (zRb rfl)), ?_⟩
          refine And.intro (zRb rfl) (zbf rfl ?_)
          refine And.intro ⟨(zRb rfl), (zRb rfl)⟩ (zbt rfl ?_)
          refine And.intro (Or.inl rfl) ?_
          refine And.intro (Or.inl rfl) ?_
          refine hQ _ _ ?_ ?_ ?_ (fun c j h0 h1 h2 h3 => (zxcj h3 rfl))
          · first
            | (rw [if_pos (by omega)]
               try first
               | rfl
               | exact zxe)
            | (rw [if_neg (by omega)]
               try first
               | rfl
               | exact zxe)
          · first
            | (rw [if_pos (by omega)]
               try first
               | rfl
               | exact zxe)
            | (rw [if_neg (by omega)]
               try first
               | rfl
               | exact zxe)
          · first
            | (rw [if_pos (by omega)]
               exact zBA_fr p83hBA2 (fun c j h => zxcj (by omega) rfl) (fun c j h => rfl))
            | (rw [if_neg (by omega)]
               exact zBA_fr hBA (fun c j h => zxcj (by omega) rfl) (fun c j h => rfl))
    · refine And.intro (Or.inr rfl) ?_
      refine And.intro (zRb rfl) (zbf rfl ?_)
      refine Exists.intro _ (And.intro (zinl_ok (zT11_25 1)) (And.intro rfl ?_))
      refine And.intro (by omega) ⟨fun h1_26 => ?_, fun h1_26 => ?_⟩
      · refine And.intro (Or.inl rfl) ?_
        refine And.intro (zRb rfl) (zbt rfl ?_)
        refine And.intro (by omega) ⟨fun h48 => ?_, fun h48 => ?_⟩
        · refine And.intro (zA_40 hS) (Exists.intro _ (And.intro (zinl_ok (zT11_22 1)) (And.intro rfl ?_)))
          refine And.intro (zA_40 hS) (Exists.intro _ (And.intro (zinl_ok (zT11_1 0)) (And.intro rfl ?_)))
          refine And.intro (zRb rfl) (zbf rfl ?_)
          refine And.intro (zA_40 hS) ⟨_, (zWi (zRb rfl)), ?_⟩
          refine And.intro (zRb rfl) (zbf rfl ?_)
          refine And.intro ⟨(zRb rfl), (zRb rfl)⟩ (zbt rfl ?_)
          refine And.intro (Or.inl rfl) ?_
          refine And.intro (Or.inl rfl) ?_
          refine hQ _ _ ?_ ?_ ?_ (fun c j h0 h1 h2 h3 => (zxcj h3 rfl))
          · first
            | (rw [if_pos (by omega)]
               try first
               | rfl
               | exact zxe)
            | (rw [if_neg (by omega)]
               try first
               | rfl
               | exact zxe)
          · first
            | (rw [if_pos (by omega)]
               try first
               | rfl
               | exact zxe)
            | (rw [if_neg (by omega)]
               try first
               | rfl
               | exact zxe)
          · first
            | (rw [if_pos (by omega)]
               exact zBA_fr p83hBA2 (fun c j h => zxcj (by omega) rfl) (fun c j h => rfl))
            | (rw [if_neg (by omega)]
               exact zBA_fr hBA (fun c j h => zxcj (by omega) rfl) (fun c j h => rfl))
        · refine And.intro (zA_40 hS) (zrdR (v := some 82) (zR_40_9 hR) ?_)
          refine And.intro (zA_82 hS) (zrd (v := (bD s)) hbd ?_)
          refine And.intro ⟨(by omega), (by omega)⟩ ⟨fun h59 => ?_, fun h59 => ?_⟩
          · refine And.intro (zA_40 hS) (Exists.intro _ (And.intro (zinl_ok (zT11_22 1)) (And.intro rfl ?_)))
            refine And.intro (zA_40 hS) (Exists.intro _ (And.intro (zinl_ok (zT11_1 0)) (And.intro rfl ?_)))
            refine And.intro (zRb rfl) (zbf rfl ?_)
            refine And.intro (zA_40 hS) ⟨_, (zWi (zRb rfl)), ?_⟩
            refine And.intro (zRb rfl) (zbf rfl ?_)
            refine And.intro ⟨(zRb rfl), (zRb rfl)⟩ (zbt rfl ?_)
            refine And.intro (Or.inl rfl) ?_
            refine And.intro (Or.inl rfl) ?_
            refine hQ _ _ ?_ ?_ ?_ (fun c j h0 h1 h2 h3 => (zxcj h3 rfl))
            · first
              | (rw [if_pos (by omega)]
                 try first
                 | rfl
                 | exact zxe)
              | (rw [if_neg (by omega)]
                 try first
                 | rfl
                 | exact zxe)
            · first
              | (rw [if_pos (by omega)]
                 try first
                 | rfl
                 | exact zxe)
              | (rw [if_neg (by omega)]
                 try first
                 | rfl
                 | exact zxe)
            · first
              | (rw [if_pos (by omega)]
                 exact zBA_fr p83hBA2 (fun c j h => zxcj (by omega) rfl) (fun c j h => rfl))
              | (rw [if_neg (by omega)]
                 exact zBA_fr hBA (fun c j h => zxcj (by omega) rfl) (fun c j h => rfl))
          · refine And.intro (zRb rfl) (zbf rfl ?_)
            refine And.intro (zA_40 hS) (Exists.intro _ (And.intro (zinl_ok (zT11_22 1)) (And.intro rfl ?_)))
            refine And.intro (zA_40 hS) (Exists.intro _ (And.intro (zinl_ok (zT11_1 0)) (And.intro rfl ?_)))
            refine And.intro (zRb rfl) (zbf rfl ?_)
            refine And.intro (zA_40 hS) ⟨_, (zWi (zRb rfl)), ?_⟩
            refine And.intro (zRb rfl) (zbf rfl ?_)
            refine And.intro ⟨(zRb rfl), (zRb rfl)⟩ (zbt rfl ?_)
            refine And.intro (Or.inl rfl) ?_
            refine And.intro (Or.inl rfl) ?_
            refine hQ _ _ ?_ ?_ ?_ (fun c j h0 h1 h2 h3 => (zxcj h3 rfl))
            · first
              | (rw [if_pos (by omega)]
                 try first
                 | rfl
                 | exact zxe)
              | (rw [if_neg (by omega)]
                 try first
                 | rfl
                 | exact zxe)
            · first
              | (rw [if_pos (by omega)]
                 try first
                 | rfl
                 | exact zxe)
              | (rw [if_neg (by omega)]
                 try first
                 | rfl
                 | exact zxe)
            · first
              | (rw [if_pos (by omega)]
                 exact zBA_fr p83hBA2 (fun c j h => zxcj (by omega) rfl) (fun c j h => rfl))
              | (rw [if_neg (by omega)]
                 exact zBA_fr hBA (fun c j h => zxcj (by omega) rfl) (fun c j h => rfl))
      · refine And.intro ⟨(by omega), (zRb rfl)⟩ ⟨fun h7_26 => ?_, fun h7_26 => ?_⟩
        · refine And.intro (Or.inl rfl) ?_
          refine And.intro (zRb rfl) (zbt rfl ?_)
          refine And.intro (by omega) ⟨fun h48 => ?_, fun h48 => ?_⟩
          · refine And.intro (zA_40 hS) (Exists.intro _ (And.intro (zinl_ok (zT11_22 1)) (And.intro rfl ?_)))
            refine And.intro (zA_40 hS) (Exists.intro _ (And.intro (zinl_ok (zT11_1 0)) (And.intro rfl ?_)))
            refine And.intro (zRb rfl) (zbf rfl ?_)
            refine And.intro (zA_40 hS) ⟨_, (zWi (zRb rfl)), ?_⟩
            refine And.intro (zRb rfl) (zbf rfl ?_)
            refine And.intro ⟨(zRb rfl), (zRb rfl)⟩ (zbt rfl ?_)
            refine And.intro (Or.inl rfl) ?_
            refine And.intro (Or.inl rfl) ?_
            refine hQ _ _ ?_ ?_ ?_ (fun c j h0 h1 h2 h3 => (zxcj h3 rfl))
            · first
              | (rw [if_pos (by omega)]
                 try first
                 | rfl
                 | exact zxe)
              | (rw [if_neg (by omega)]
                 try first
                 | rfl
                 | exact zxe)
            · first
              | (rw [if_pos (by omega)]
                 try first
                 | rfl
                 | exact zxe)
              | (rw [if_neg (by omega)]
                 try first
                 | rfl
                 | exact zxe)
            · first
              | (rw [if_pos (by omega)]
                 exact zBA_fr p83hBA2 (fun c j h => zxcj (by omega) rfl) (fun c j h => rfl))
              | (rw [if_neg (by omega)]
                 exact zBA_fr hBA (fun c j h => zxcj (by omega) rfl) (fun c j h => rfl))
          · refine And.intro (zA_40 hS) (zrdR (v := some 82) (zR_40_9 hR) ?_)
            refine And.intro (zA_82 hS) (zrd (v := (bD s)) hbd ?_)
            refine And.intro ⟨(by omega), (by omega)⟩ ⟨fun h59 => ?_, fun h59 => ?_⟩
            · refine And.intro (zA_40 hS) (Exists.intro _ (And.intro (zinl_ok (zT11_22 1)) (And.intro rfl ?_)))
              refine And.intro (zA_40 hS) (Exists.intro _ (And.intro (zinl_ok (zT11_1 0)) (And.intro rfl ?_)))
              refine And.intro (zRb rfl) (zbf rfl ?_)
              refine And.intro (zA_40 hS) ⟨_, (zWi (zRb rfl)), ?_⟩
              refine And.intro (zRb rfl) (zbf rfl ?_)
              refine And.intro ⟨(zRb rfl), (zRb rfl)⟩ (zbt rfl ?_)
              refine And.intro (Or.inl rfl) ?_
              refine And.intro (Or.inl rfl) ?_
              refine hQ _ _ ?_ ?_ ?_ (fun c j h0 h1 h2 h3 => (zxcj h3 rfl))
              · first
                | (rw [if_pos (by omega)]
                   try first
                   | rfl
                   | exact zxe)
                | (rw [if_neg (by omega)]
                   try first
                   | rfl
                   | exact zxe)
              · first
                | (rw [if_pos (by omega)]
                   try first
                   | rfl
                   | exact zxe)
                | (rw [if_neg (by omega)]
                   try first
                   | rfl
                   | exact zxe)
              · first
                | (rw [if_pos (by omega)]
                   exact zBA_fr p83hBA2 (fun c j h => zxcj (by omega) rfl) (fun c j h => rfl))
                | (rw [if_neg (by omega)]
                   exact zBA_fr hBA (fun c j h => zxcj (by omega) rfl) (fun c j h => rfl))
            · refine And.intro (zRb rfl) (zbf rfl ?_)
              refine And.intro (zA_40 hS) (Exists.intro _ (And.intro (zinl_ok (zT11_22 1)) (And.intro rfl ?_)))
              refine And.intro (zA_40 hS) (Exists.intro _ (And.intro (zinl_ok (zT11_1 0)) (And.intro rfl ?_)))
              refine And.intro (zRb rfl) (zbf rfl ?_)
              refine And.intro (zA_40 hS) ⟨_, (zWi (zRb rfl)), ?_⟩
              refine And.intro (zRb rfl) (zbf rfl ?_)
              refine And.intro ⟨(zRb rfl), (zRb rfl)⟩ (zbt rfl ?_)
              refine And.intro (Or.inl rfl) ?_
              refine And.intro (Or.inl rfl) ?_
              refine hQ _ _ ?_ ?_ ?_ (fun c j h0 h1 h2 h3 => (zxcj h3 rfl))
              · first
                | (rw [if_pos (by omega)]
                   try first
                   | rfl
                   | exact zxe)
                | (rw [if_neg (by omega)]
                   try first
                   | rfl
                   | exact zxe)
              · first
                | (rw [if_pos (by omega)]
                   try first
                   | rfl
                   | exact zxe)
                | (rw [if_neg (by omega)]
                   try first
                   | rfl
                   | exact zxe)
              · first
                | (rw [if_pos (by omega)]
                   exact zBA_fr p83hBA2 (fun c j h => zxcj (by omega) rfl) (fun c j h => rfl))
                | (rw [if_neg (by omega)]
                   exact zBA_fr hBA (fun c j h => zxcj (by omega) rfl) (fun c j h => rfl))
        · refine And.intro (Or.inr rfl) ?_
          refine And.intro (zRb rfl) (zbf rfl ?_)
          refine Exists.intro _ (And.intro (zinl_ok (zT11_25 1)) (And.intro rfl ?_))
          refine And.intro (by omega) ⟨fun h1_34 => ?_, fun h1_34 => ?_⟩
          · refine And.intro (Or.inl rfl) ?_
            refine And.intro (zRb rfl) (zbt rfl ?_)
            refine And.intro (by omega) ⟨fun h48 => ?_, fun h48 => ?_⟩
            · refine And.intro (zA_40 hS) (Exists.intro _ (And.intro (zinl_ok (zT11_22 1)) (And.intro rfl ?_)))
              refine And.intro (zA_40 hS) (Exists.intro _ (And.intro (zinl_ok (zT11_1 0)) (And.intro rfl ?_)))
              refine And.intro (zRb rfl) (zbf rfl ?_)
              refine And.intro (zA_40 hS) ⟨_, (zWi (zRb rfl)), ?_⟩
              refine And.intro (zRb rfl) (zbf rfl ?_)
              refine And.intro ⟨(zRb rfl), (zRb rfl)⟩ (zbt rfl ?_)
              refine And.intro (Or.inl rfl) ?_
              refine And.intro (Or.inl rfl) ?_
              refine hQ _ _ ?_ ?_ ?_ (fun c j h0 h1 h2 h3 => (zxcj h3 rfl))
              · first
                | (rw [if_pos (by omega)]
                   try first
                   | rfl
                   | exact zxe)
                | (rw [if_neg (by omega)]
                   try first
                   | rfl
                   | exact zxe)
              · first
                | (rw [if_pos (by omega)]
                   try first
                   | rfl
                   | exact zxe)
                | (rw [if_neg (by omega)]
                   try first
                   | rfl
                   | exact zxe)
              · first
                | (rw [if_pos (by omega)]
                   exact zBA_fr p83hBA2 (fun c j h => zxcj (by omega) rfl) (fun c j h => rfl))
                | (rw [if_neg (by omega)]
                   exact zBA_fr hBA (fun c j h => zxcj (by omega) rfl) (fun c j h => rfl))
            · refine And.intro (zA_40 hS) (zrdR (v := some 82) (zR_40_9 hR) ?_)
              refine And.intro (zA_82 hS) (zrd (v := (bD s)) hbd ?_)
              refine And.intro ⟨(by omega), (by omega)⟩ ⟨fun h59 => ?_, fun h59 => ?_⟩
              · refine And.intro (zA_40 hS) (Exists.intro _ (And.intro (zinl_ok (zT11_22 1)) (And.intro rfl ?_)))
                refine And.intro (zA_40 hS) (Exists.intro _ (And.intro (zinl_ok (zT11_1 0)) (And.intro rfl ?_)))
                refine And.intro (zRb rfl) (zbf rfl ?_)
                refine And.intro (zA_40 hS) ⟨_, (zWi (zRb rfl)), ?_⟩
                refine And.intro (zRb rfl) (zbf rfl ?_)
                refine And.intro ⟨(zRb rfl), (zRb rfl)⟩ (zbt rfl ?_)
                refine And.intro (Or.inl rfl) ?_
                refine And.intro (Or.inl rfl) ?_
                refine hQ _ _ ?_ ?_ ?_ (fun c j h0 h1 h2 h3 => (zxcj h3 rfl))
                · first
                  | (rw [if_pos (by omega)]
                     try first
                     | rfl
                     | exact zxe)
                  | (rw [if_neg (by omega)]
                     try first
                     | rfl
                     | exact zxe)
                · first
                  | (rw [if_pos (by omega)]
                     try first
                     | rfl
                     | exact zxe)
                  | (rw [if_neg (by omega)]
                     try first
                     | rfl
                     | exact zxe)
                · first
                  | (rw [if_pos (by omega)]
                     exact zBA_fr p83hBA2 (fun c j h => zxcj (by omega) rfl) (fun c j h => rfl))
                  | (rw [if_neg (by omega)]
                     exact zBA_fr hBA (fun c j h => zxcj (by omega) rfl) (fun c j h => rfl))
              · refine And.intro (zRb rfl) (zbf rfl ?_)
                refine And.intro (zA_40 hS) (Exists.intro _ (And.intro (zinl_ok (zT11_22 1)) (And.intro rfl ?_)))
                refine And.intro (zA_40 hS) (Exists.intro _ (And.intro (zinl_ok (zT11_1 0)) (And.intro rfl ?_)))
                refine And.intro (zRb rfl) (zbf rfl ?_)
                refine And.intro (zA_40 hS) ⟨_, (zWi (zRb rfl)), ?_⟩
                refine And.intro (zRb rfl) (zbf rfl ?_)
                refine And.intro ⟨(zRb rfl), (zRb rfl)⟩ (zbt rfl ?_)
                refine And.intro (Or.inl rfl) ?_
                refine And.intro (Or.inl rfl) ?_
                refine hQ _ _ ?_ ?_ ?_ (fun c j h0 h1 h2 h3 => (zxcj h3 rfl))
                · first
                  | (rw [if_pos (by omega)]
                     try first
                     | rfl
                     | exact zxe)
                  | (rw [if_neg (by omega)]
                     try first
                     | rfl
                     | exact zxe)
                · first
                  | (rw [if_pos (by omega)]
                     try first
                     | rfl
                     | exact zxe)
                  | (rw [if_neg (by omega)]
                     try first
                     | rfl
                     | exact zxe)
                · first
                  | (rw [if_pos (by omega)]
                     exact zBA_fr p83hBA2 (fun c j h => zxcj (by omega) rfl) (fun c j h => rfl))
                  | (rw [if_neg (by omega)]
                     exact zBA_fr hBA (fun c j h => zxcj (by omega) rfl) (fun c j h => rfl))
          · refine And.intro ⟨(by omega), (zRb rfl)⟩ ⟨fun h7_34 => ?_, fun h7_34 => ?_⟩
            · refine And.intro (Or.inl rfl) ?_
              refine And.intro (zRb rfl) (zbt rfl ?_)
              refine And.intro (by omega) ⟨fun h48 => ?_, fun h48 => ?_⟩
              · refine And.intro (zA_40 hS) (Exists.intro _ (And.intro (zinl_ok (zT11_22 1)) (And.intro rfl ?_)))
                refine And.intro (zA_40 hS) (Exists.intro _ (And.intro (zinl_ok (zT11_1 0)) (And.intro rfl ?_)))
                refine And.intro (zRb rfl) (zbf rfl ?_)
                refine And.intro (zA_40 hS) ⟨_, (zWi (zRb rfl)), ?_⟩
                refine And.intro (zRb rfl) (zbf rfl ?_)
                refine And.intro ⟨(zRb rfl), (zRb rfl)⟩ (zbt rfl ?_)
                refine And.intro (Or.inl rfl) ?_
                refine And.intro (Or.inl rfl) ?_
                refine hQ _ _ ?_ ?_ ?_ (fun c j h0 h1 h2 h3 => (zxcj h3 rfl))
                · first
                  | (rw [if_pos (by omega)]
                     try first
                     | rfl
                     | exact zxe)
                  | (rw [if_neg (by omega)]
                     try first
                     | rfl
                     | exact zxe)
                · first
                  | (rw [if_pos (by omega)]
                     try first
                     | rfl
                     | exact zxe)
                  | (rw [if_neg (by omega)]
                     try first
                     | rfl
                     | exact zxe)
                · first
                  | (rw [if_pos (by omega)]
                     exact zBA_fr p83hBA2 (fun c j h => zxcj (by omega) rfl) (fun c j h => rfl))
                  | (rw [if_neg (by omega)]
                     exact zBA_fr hBA (fun c j h => zxcj (by omega) rfl) (fun c j h => rfl))
              · refine And.intro (zA_40 hS) (zrdR (v := some 82) (zR_40_9 hR) ?_)
                refine And.intro (zA_82 hS) (zrd (v := (bD s)) hbd ?_)
                refine And.intro ⟨(by omega), (by omega)⟩ ⟨fun h59 => ?_, fun h59 => ?_⟩
                · refine And.intro (zA_40 hS) (Exists.intro _ (And.intro (zinl_ok (zT11_22 1)) (And.intro rfl ?_)))
                  refine And.intro (zA_40 hS) (Exists.intro _ (And.intro (zinl_ok (zT11_1 0)) (And.intro rfl ?_)))
                  refine And.intro (zRb rfl) (zbf rfl ?_)
                  refine And.intro (zA_40 hS) ⟨_, (zWi (zRb rfl)), ?_⟩
                  refine And.intro (zRb rfl) (zbf rfl ?_)
                  refine And.intro ⟨(zRb rfl), (zRb rfl)⟩ (zbt rfl ?_)
                  refine And.intro (Or.inl rfl) ?_
                  refine And.intro (Or.inl rfl) ?_
                  refine hQ _ _ ?_ ?_ ?_ (fun c j h0 h1 h2 h3 => (zxcj h3 rfl))
                  · first
                    | (rw [if_pos (by omega)]
                       try first
                       | rfl
                       | exact zxe)
                    | (rw [if_neg (by omega)]
                       try first
                       | rfl
                       | exact zxe)
                  · first
                    | (rw [if_pos (by omega)]
                       try first
                       | rfl
                       | exact zxe)
                    | (rw [if_neg (by omega)]
                       try first
                       | rfl
                       | exact zxe)
                  · first
                    | (rw [if_pos (by omega)]
                       exact zBA_fr p83hBA2 (fun c j h => zxcj (by omega) rfl) (fun c j h => rfl))
                    | (rw [if_neg (by omega)]
                       exact zBA_fr hBA (fun c j h => zxcj (by omega) rfl) (fun c j h => rfl))
                · refine And.intro (zRb rfl) (zbf rfl ?_)
                  refine And.intro (zA_40 hS) (Exists.intro _ (And.intro (zinl_ok (zT11_22 1)) (And.intro rfl ?_)))
                  refine And.intro (zA_40 hS) (Exists.intro _ (And.intro (zinl_ok (zT11_1 0)) (And.intro rfl ?_)))
                  refine And.intro (zRb rfl) (zbf rfl ?_)
                  refine And.intro (zA_40 hS) ⟨_, (zWi (zRb rfl)), ?_⟩
                  refine And.intro (zRb rfl) (zbf rfl ?_)
                  refine And.intro ⟨(zRb rfl), (zRb rfl)⟩ (zbt rfl ?_)
                  refine And.intro (Or.inl rfl) ?_
                  refine And.intro (Or.inl rfl) ?_
                  refine hQ _ _ ?_ ?_ ?_ (fun c j h0 h1 h2 h3 => (zxcj h3 rfl))
                  · first
                    | (rw [if_pos (by omega)]
                       try first
                       | rfl
                       | exact zxe)
                    | (rw [if_neg (by omega)]
                       try first
                       | rfl
                       | exact zxe)
                  · first
                    | (rw [if_pos (by omega)]
                       try first
                       | rfl
                       | exact zxe)
                    | (rw [if_neg (by omega)]
                       try first
                       | rfl
                       | exact zxe)
                  · first
                    | (rw [if_pos (by omega)]
                       exact zBA_fr p83hBA2 (fun c j h => zxcj (by omega) rfl) (fun c j h => rfl))
                    | (rw [if_neg (by omega)]
                       exact zBA_fr hBA (fun c j h => zxcj (by omega) rfl) (fun c j h => rfl))
            · refine And.intro (Or.inr rfl) ?_
              refine And.intro (zRb rfl) (zbf rfl ?_)
              refine And.intro (by omega) ⟨fun h48 => ?_, fun h48 => ?_⟩
              · refine And.intro (zA_40 hS) (Exists.intro _ (And.intro (zinl_ok (zT11_22 1)) (And.intro rfl ?_)))
                refine And.intro (zA_40 hS) (Exists.intro _ (And.intro (zinl_ok (zT11_1 0)) (And.intro rfl ?_)))
                refine And.intro (zRb rfl) (zbf rfl ?_)
                refine And.intro (zA_40 hS) ⟨_, (zWi (zRb rfl)), ?_⟩
                refine And.intro (zRb rfl) (zbf rfl ?_)
                refine And.intro ⟨(zRb rfl), (zRb rfl)⟩ (zbt rfl ?_)
                refine And.intro (Or.inl rfl) ?_
                refine And.intro (Or.inl rfl) ?_
                refine hQ _ _ ?_ ?_ ?_ (fun c j h0 h1 h2 h3 => (zxcj h3 rfl))
                · first
                  | (rw [if_pos (by omega)]
                     try first
                     | rfl
                     | exact zxe)
                  | (rw [if_neg (by omega)]
                     try first
                     | rfl
                     | exact zxe)
                · first
                  | (rw [if_pos (by omega)]
                     try first
                     | rfl
                     | exact zxe)
                  | (rw [if_neg (by omega)]
                     try first
                     | rfl
                     | exact zxe)
                · first
                  | (rw [if_pos (by omega)]
                     exact zBA_fr p83hBA2 (fun c j h => zxcj (by omega) rfl) (fun c j h => rfl))
                  | (rw [if_neg (by omega)]
                     exact zBA_fr hBA (fun c j h => zxcj (by omega) rfl) (fun c j h => rfl))
              · refine And.intro (zA_40 hS) (zrdR (v := some 82) (zR_40_9 hR) ?_)
                refine And.intro (zA_82 hS) (zrd (v := (bD s)) hbd ?_)
                refine And.intro ⟨(by omega), (by omega)⟩ ⟨fun h59 => ?_, fun h59 => ?_⟩
                · refine And.intro (zA_40 hS) (Exists.intro _ (And.intro (zinl_ok (zT11_22 1)) (And.intro rfl ?_)))
                  refine And.intro (zA_40 hS) (Exists.intro _ (And.intro (zinl_ok (zT11_1 0)) (And.intro rfl ?_)))
                  refine And.intro (zRb rfl) (zbf rfl ?_)
                  refine And.intro (zA_40 hS) ⟨_, (zWi (zRb rfl)), ?_⟩
                  refine And.intro (zRb rfl) (zbf rfl ?_)
                  refine And.intro ⟨(zRb rfl), (zRb rfl)⟩ (zbt rfl ?_)
                  refine And.intro (Or.inl rfl) ?_
                  refine And.intro (Or.inl rfl) ?_
                  refine hQ _ _ ?_ ?_ ?_ (fun c j h0 h1 h2 h3 => (zxcj h3 rfl))
                  · first
                    | (rw [if_pos (by omega)]
                       try first
                       | rfl
                       | exact zxe)
                    | (rw [if_neg (by omega)]
                       try first
                       | rfl
                       | exact zxe)
                  · first
                    | (rw [if_pos (by omega)]
                       try first
                       | rfl
                       | exact zxe)
                    | (rw [if_neg (by omega)]
                       try first
                       | rfl
                       | exact zxe)
                  · first
                    | (rw [if_pos (by omega)]
                       exact zBA_fr p83hBA2 (fun c j h => zxcj (by omega) rfl) (fun c j h => rfl))
                    | (rw [if_neg (by omega)]
                       exact zBA_fr hBA (fun c j h => zxcj (by omega) rfl) (fun c j h => rfl))
                · refine And.intro (zRb rfl) (zbt rfl ?_)
                  refine And.intro (zA_40 hS) (zrdR (v := some 82) (zR_40_9 hR) ?_)
                  refine And.intro (zA_82 hS) ⟨_, sn_A_setC.up (by decide), ?_⟩
                  refine ⟨b, s, l.toNat, (l : Int), a.toNat, (a : Int), y.toNat, (y : Int), n.toNat, (n : Int), rfl, hS, hR, (by first | exact (zBA_fr hBA (fun c j h => rfl) (fun c j h => rfl)) | (clear hQ; grind [xu])), (by omega), (by omega), (by omega), (by omega), ?_⟩
                  intro I83o p83hBA2 p83bfr
                  refine And.intro (zA_40 hS) (Exists.intro _ (And.intro (zinl_ok (zT11_22 1)) (And.intro rfl ?_)))
                  refine And.intro (zA_40 hS) (Exists.intro _ (And.intro (zinl_ok (zT11_1 0)) (And.intro rfl ?_)))
                  refine And.intro (zRb rfl) (zbt rfl ?_)
                  refine And.intro (zA_40 hS) ⟨_, (zWi (zRb rfl)), ?_⟩
                  refine And.intro (zRb rfl) (zbt rfl ?_)
                  refine And.intro ⟨(zRb rfl), (zRb rfl)⟩ (zbf rfl ?_)
                  refine And.intro (Or.inr rfl) ?_
                  refine And.intro (Or.inr rfl) ?_
                  refine hQ _ _ ?_ ?_ ?_ (fun c j h0 h1 h2 h3 => (zxcj h3 ((p83bfr c j (by omega) (by omega) (by omega)).trans rfl)))
                  · first
                    | (rw [if_pos (by omega)]
                       try first
                       | rfl
                       | exact zxe)
                    | (rw [if_neg (by omega)]
                       try first
                       | rfl
                       | exact zxe)
                  · first
                    | (rw [if_pos (by omega)]
                       try first
                       | rfl
                       | exact zxe)
                    | (rw [if_neg (by omega)]
                       try first
                       | rfl
                       | exact zxe)
                  · first
                    | (rw [if_pos (by omega)]
                       exact zBA_fr p83hBA2 (fun c j h => zxcj (by omega) rfl) (fun c j h => rfl))
                    | (rw [if_neg (by omega)]
                       exact zBA_fr hBA (fun c j h => zxcj (by omega) rfl) (fun c j h => rfl)))
