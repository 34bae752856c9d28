/-! ex: SCRIPTS: statements that hold no block, as a text has them -/
def exT (c : Nat → Int) (u : Int) (x : ExR) : ExR := if x.1 = 1 then (if c x.2.1 = u then (1, x.2.1 + 1, x.2.2) else exF x.2.1) else x
def exG (c : Nat → Int) (x : ExR) : ExR := if x.1 = 1 then exEx c 3 x.2.1 else x
def exH (c : Nat → Int) (x : ExR) : ExR := if x.1 = 1 then exAt c 3 x.2.1 else x
def exI (p : Nat) : ExR := (1, p, [])
/-- a reading on the way: its flag, and that it ends within the text -/
def exW (n : Nat) (x : ExR) : Prop := (x.1 = 0 ∨ x.1 = 1) ∧ x.2.1 ≤ n
theorem exOk_W {n p : Nat} {x : ExR} (h : exOk n p x) : exW n x := by
  rcases h with h | h
  · exact ⟨Or.inr h.1, h.2.2⟩
  · exact ⟨Or.inl h.1, h.2⟩
theorem exT_W {n : Nat} {c : Nat → Int} {u : Int} {x : ExR} (hc : eTx n c) (hu : u ≠ -1) (h : exW n x) : exW n (exT c u x) := by
  unfold exT
  by_cases e : x.1 = 1
  · rw [if_pos e]
    by_cases e2 : c x.2.1 = u
    · rw [if_pos e2]
      exact ⟨Or.inr rfl, eTx_lt hc (by omega)⟩
    · rw [if_neg e2]
      exact ⟨Or.inl rfl, h.2⟩
  · rw [if_neg e]
    exact h
theorem exG_W {n : Nat} {c : Nat → Int} {x : ExR} (hc : eTx n c) (h : exW n x) : exW n (exG c x) := by
  unfold exG
  by_cases e : x.1 = 1
  · rw [if_pos e]; exact exOk_W (exEx_ok hc h.2)
  · rw [if_neg e]; exact h
theorem exH_W {n : Nat} {c : Nat → Int} {x : ExR} (hc : eTx n c) (h : exW n x) : exW n (exH c x) := by
  unfold exH
  by_cases e : x.1 = 1
  · rw [if_pos e]; exact exOk_W (exAt_ok hc h.2)
  · rw [if_neg e]; exact h
theorem exFd_W {n : Nat} {c : Nat → Int} {x : ExR} (hc : eTx n c) (h : exW n x) : exW n (exFd c x) := by
  unfold exFd
  by_cases e : x.1 = 1
  · rw [if_pos e]
    by_cases e2 : c x.2.1 = 58
    · rw [if_pos e2]
      have hl := eTx_lt hc (p := x.2.1) (by omega)
      by_cases e3 : 48 ≤ c (x.2.1 + 1) ∧ c (x.2.1 + 1) ≤ 53
      · rw [if_pos e3]
        exact ⟨Or.inr rfl, eTx_lt hc (by omega)⟩
      · rw [if_neg e3]
        exact ⟨Or.inl rfl, hl⟩
    · rw [if_neg e2]
      exact ⟨Or.inl rfl, h.2⟩
  · rw [if_neg e]; exact h
/-- a statement of no block -/
def stS (c : Nat → Int) (p : Nat) : ExR := if 97 ≤ c p ∧ c p ≤ 122 then exT c 59 (exG c (exT c 61 (exI (p + 1)))) else if 65 ≤ c p ∧ c p ≤ 90 then exT c 59 (exI (p + 1)) else if c p = 64 then exT c 59 (exG c (exT c 61 (exFd c (exH c (exI (p + 1)))))) else if c p = 39 then exT c 59 (exG c (exT c 61 (exH c (exI (p + 1))))) else if c p = 33 ∨ c p = 94 ∨ c p = 43 ∨ c p = 38 ∨ c p = 124 ∨ c p = 60 then exT c 59 (exG c (exI (p + 1))) else exF p
theorem stS_v {c : Nat → Int} {p : Nat} (h : 97 ≤ c p ∧ c p ≤ 122) : stS c p = exT c 59 (exG c (exT c 61 (exI (p + 1)))) := if_pos h
theorem stS_c {c : Nat → Int} {p : Nat} (h : 65 ≤ c p ∧ c p ≤ 90) : stS c p = exT c 59 (exI (p + 1)) := (if_neg (by omega)).trans (if_pos h)
theorem stS_a {c : Nat → Int} {p : Nat} (h : c p = 64) : stS c p = exT c 59 (exG c (exT c 61 (exFd c (exH c (exI (p + 1)))))) := (if_neg (by omega)).trans ((if_neg (by omega)).trans (if_pos h))
theorem stS_q {c : Nat → Int} {p : Nat} (h : c p = 39) : stS c p = exT c 59 (exG c (exT c 61 (exH c (exI (p + 1))))) := (if_neg (by omega)).trans ((if_neg (by omega)).trans ((if_neg (by omega)).trans (if_pos h)))
theorem stS_e {c : Nat → Int} {p : Nat} (h : c p = 33 ∨ c p = 94 ∨ c p = 43 ∨ c p = 38 ∨ c p = 124 ∨ c p = 60) : stS c p = exT c 59 (exG c (exI (p + 1))) := (if_neg (by omega)).trans ((if_neg (by omega)).trans ((if_neg (by omega)).trans ((if_neg (by omega)).trans (if_pos h))))
theorem stS_f {c : Nat → Int} {p : Nat} (h1 : ¬ (97 ≤ c p ∧ c p ≤ 122)) (h2 : ¬ (65 ≤ c p ∧ c p ≤ 90)) (h3 : ¬ c p = 64) (h4 : ¬ c p = 39) (h5 : ¬ (c p = 33 ∨ c p = 94 ∨ c p = 43 ∨ c p = 38 ∨ c p = 124 ∨ c p = 60)) : stS c p = exF p := (if_neg h1).trans ((if_neg h2).trans ((if_neg h3).trans ((if_neg h4).trans (if_neg h5))))
