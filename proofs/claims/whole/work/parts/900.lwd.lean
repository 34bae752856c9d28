/-! lwd -/
def T_A_mbas : ZT := fun args I L R S Q => ∃ (b : Nat) (s : BdS) (l : Int) (i : Int) (j : Int), args = [zvr 40, zvi l, zvi i, zvi j] ∧ (zSh S) ∧ (zRs R) ∧ (I 82 0 = b - 1) ∧ (b ≠ 0 → zBA b s I L ∧ bGd s) ∧ (r32 l ∧ r32 i ∧ r32 j) ∧ (b ≤ 6) ∧ ∀ (v : Int) (I' : ZI), (v = if 0 ≤ bBarV b s l i j then 1 else 0) → (I' 40 3 = if 0 ≤ bBarV b s l i j then 0 else -(bBarV b s l i j)) → (b ≠ 0 → bBarV b s l i j = 0 → zBA b (bBar s (cxI (bW s) (bH s) (bD s) l i j).toNat) I' L) → (bBarV b s l i j ≠ 0 → ∀ c j : Nat, ¬ (c = 40 ∧ j = 3) → I' c j = I c j) → (∀ c j : Nat, ¬ c = 84 → ¬ (c = 40 ∧ j = 3) → I' c j = I c j) → Q (some (zvi (v))) I' L R S
theorem sn_A_mbas : ZSnd 3 11 3 T_A_mbas := ZSnd.of (zT11_3 2) (by
  rintro args I L R S Q hz ⟨b, s, l, i, j, rfl, hS, hR, hb0, hBG, hr, hb6, hQ⟩
  refine And.intro rfl ?_
  refine And.intro (zA_40 hS) (zrdR (v := some 82) (zR_40_9 hR) ?_)
  refine And.intro (zA_82 hS) ⟨_, sn_A_bar.up (by decide), ?_⟩
  refine ⟨b, s, (l : Int), (i : Int), (j : Int), rfl, hS, hR, hb0, hBG, hr, hb6, ?_⟩
  intro v8o I8o p8hv p8bhBA2 p8bbhI2 p8bbbfr
  have g8 : -4 ≤ v8o := (by have h9 := bBarV_or b s l i j; omega)
  have g8b : v8o ≤ 0 := (by have h9 := bBarV_or b s l i j; omega)
  refine And.intro (zA_40 hS) (Exists.intro _ (And.intro (zinl_ok (zT11_22 1)) (And.intro rfl ?_)))
  refine And.intro (zA_40 hS) (Exists.intro _ (And.intro (zinl_ok (zT11_1 0)) (And.intro rfl ?_)))
  refine And.intro (by omega) ⟨fun h2_11_2 => ?_, fun h2_11_2 => ?_⟩
  · refine And.intro (zA_40 hS) ⟨_, (zWi (zRb rfl)), ?_⟩
    refine And.intro (by omega) ⟨fun h15_11_2 => ?_, (fun h15_11_2 => False.elim (by omega))⟩
    refine And.intro ⟨(by omega), (zRb rfl)⟩ ⟨(fun h6_11 => False.elim (by omega)), fun h6_11 => ?_⟩
    refine And.intro (Or.inr rfl) ?_
    refine And.intro (Or.inr rfl) ?_
    refine hQ _ _ ?_ ?_ (fun h1 h2 => zBA_fr (p8bhBA2 (by omega)) (fun c j h => zxcj (by omega) rfl) (fun c j h => rfl)) (fun h2 c j h => zxcj (by omega) (p8bbhI2 (by omega) c j)) (fun c j h0 h1 => (zxcj h1 ((p8bbbfr c j h0).trans rfl)))
    · first
      | (rw [if_pos (by omega)])
      | (rw [if_neg (by omega)])
    · first
      | (rw [if_pos (by omega)]
         try first
         | omega
         | exact zxe)
      | (rw [if_neg (by omega)]
         try first
         | omega
         | exact Eq.trans zxe (by omega)
         | exact zxe)
  · refine And.intro (zA_40 hS) ⟨_, (zWi (by omega)), ?_⟩
    refine And.intro (by omega) ⟨(fun h15_11_2 => False.elim (by omega)), fun h15_11_2 => ?_⟩
    refine And.intro ⟨(zRb rfl), (zRb rfl)⟩ (zbt rfl ?_)
    refine And.intro (Or.inl rfl) ?_
    refine And.intro (Or.inl rfl) ?_
    refine hQ _ _ ?_ ?_ (fun h1 h2 => zBA_fr (p8bhBA2 (by omega)) (fun c j h => zxcj (by omega) rfl) (fun c j h => rfl)) (fun h2 c j h => zxcj (by omega) (p8bbhI2 (by omega) c j)) (fun c j h0 h1 => (zxcj h1 ((p8bbbfr c j h0).trans rfl)))
    · first
      | (rw [if_pos (by omega)])
      | (rw [if_neg (by omega)])
    · first
      | (rw [if_pos (by omega)]
         try first
         | omega
         | exact zxe)
      | (rw [if_neg (by omega)]
         try first
         | omega
         | exact Eq.trans zxe (by omega)
         | exact zxe))
