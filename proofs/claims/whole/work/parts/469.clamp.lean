/-! A SIZE between 1 and a most -/
def bCl (x : Int) (m : Nat) : Nat := (max 1 (min x (m : Int))).toNat
theorem bCl_e {x : Int} {m : Nat} : max 1 (min x (m : Int)) = ((bCl x m : Nat) : Int) := by
  unfold bCl
  omega
theorem bCl_b {x : Int} {m : Nat} (h : 1 ≤ m) : 1 ≤ bCl x m ∧ bCl x m ≤ m := by
  unfold bCl
  omega
def T_A_wth : ZT := fun args I L R S Q => ∃ (x : Int) (m : Nat), args = [zvi x, zvi m] ∧ (r32 x ∧ r32 m) ∧ Q (some (zvi (bCl x m))) I L R S
theorem sn_A_wth : ZSnd 1 11 57 T_A_wth := ZSnd.of (zT11_57 0) (by
  rintro args I L R S Q hz ⟨x, m, rfl, hr, hQ⟩
  refine And.intro rfl ?_
  refine And.intro ⟨hr.1, hr.2⟩ ?_
  refine And.intro ⟨by omega, by omega⟩ ?_
  show Q (some (zvi (max 1 (min x (m : Int))))) I L R S
  rw [bCl_e]
  exact hQ)
