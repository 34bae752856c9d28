/-! THE READING of a text as a course of states -/
/-- place, fault; objects, kept letters, open ones, version; the open objects; rows: kind, parent, begin, end, depth, version -/
abbrev TyS : Type := (Nat × Int) × (Nat × Nat × Nat × Int) × (Nat → Nat) × (Nat → Nat → Int)
abbrev typ (s : TyS) : Nat := s.1.1
abbrev tyf (s : TyS) : Int := s.1.2
abbrev tyn (s : TyS) : Nat := s.2.1.1
abbrev tyk (s : TyS) : Nat := s.2.1.2.1
abbrev tyd (s : TyS) : Nat := s.2.1.2.2.1
abbrev tyx (s : TyS) : Int := s.2.1.2.2.2
abbrev tyo (s : TyS) : Nat → Nat := s.2.2.1
abbrev tyr (s : TyS) : Nat → Nat → Int := s.2.2.2
def ty0 : TyS := ((0, -1), (0, 0, 0, 1), (fun _ => 0), (fun _ _ => 0))
/-- the object that is open at depth d, its kind -/
def tyy (s : TyS) (d : Nat) : Int := if d = 0 then -1 else (tyo s (d - 1) : Int)
def tyz (s : TyS) (d : Nat) : Int := if d = 0 then -1 else tyr s (tyo s (d - 1)) 0
def tyW (s : TyS) (d : Nat) (a : Int) (q e : Nat) (w : Nat) : Int := if w = 0 then a else if w = 1 then tyy s d else if w = 2 then (q : Int) else if w = 3 then (e : Int) else if w = 4 then (d : Int) else tyx s
/-- a fault; a kept object; an object; one is closed -/
def tyF (s : TyS) (f : Nat) : TyS := ((typ s, (f : Int)), s.2)
def tyU (s : TyS) (p d q e : Nat) : TyS := ((p, -1), (tyn s + 1, tyk s + (e - q), tyd s, tyx s), tyo s, upF (tyr s) (tyn s) (tyW s d 9 q e))
def tyO (s : TyS) (p d : Nat) (a : Int) (q : Nat) (x : Int) : TyS := ((p, -1), (tyn s + 1, tyk s, d + 1, x), upF (tyo s) d (tyn s), upF (tyr s) (tyn s) (tyW s d a q 0))
def tyC (s : TyS) (p : Nat) : TyS := ((p, -1), (tyn s, tyk s, tyd s - 1, tyx s), tyo s, tyr s)
/-! what is kept of a list: place, how many lists are open in it, 1 within a text in quotes -/
def tuS (c : Nat → Int) (q0 : Nat) : Nat → Nat × Nat × Nat
  | 0 => (q0, 1, 0)
  | k + 1 => if (tuS c q0 k).2.2 = 0 then ((tuS c q0 k).1 + 1, (if c (tuS c q0 k).1 = 40 then (tuS c q0 k).2.1 + 1 else if c (tuS c q0 k).1 = 41 then (tuS c q0 k).2.1 - 1 else (tuS c q0 k).2.1), if c (tuS c q0 k).1 = 34 then 1 else 0)
    else if c (tuS c q0 k).1 = 34 then ((tuS c q0 k).1 + 1, (tuS c q0 k).2.1, 0) else if c (tuS c q0 k).1 = 92 then ((tuS c q0 k).1 + 2, (tuS c q0 k).2.1, 1) else ((tuS c q0 k).1 + 1, (tuS c q0 k).2.1, 1)
/-- its fault in a state -/
def tuF (c : Nat → Int) (n lim ar : Nat) (u : Nat × Nat × Nat) : Int := if n ≤ u.1 ∨ lim ≤ u.1 ∨ (u.2.2 = 0 ∧ c u.1 = 40 ∧ ar + u.2.1 = 100) then (u.1 : Int) else if u.2.2 ≠ 0 ∧ c u.1 = 92 ∧ (lim ≤ u.1 + 1 ∨ (c (u.1 + 1) ≠ 34 ∧ c (u.1 + 1) ≠ 92)) then (u.1 : Int) + 1 else -1
def tuP (c : Nat → Int) (n lim ar q0 k : Nat) : Prop := (tuS c q0 k).2.1 = 0 ∨ tuF c n lim ar (tuS c q0 k) ≠ -1
noncomputable def tuN (c : Nat → Int) (n lim ar q0 : Nat) : Nat := (zlow (tuP c n lim ar q0) (n + 2)).toNat
noncomputable def tuE (c : Nat → Int) (n lim ar q0 : Nat) : Nat := (tuS c q0 (tuN c n lim ar q0)).1
noncomputable def tuX (c : Nat → Int) (n lim ar q0 : Nat) : Int := if lim < q0 then (lim : Int) else if (tuS c q0 (tuN c n lim ar q0)).2.1 = 0 then -1 else tuF c n lim ar (tuS c q0 (tuN c n lim ar q0))
theorem tuS_q {c : Nat → Int} {q0 : Nat} : ∀ k, q0 + k ≤ (tuS c q0 k).1
  | 0 => Nat.le_refl _
  | k + 1 => by
    have ih := tuS_q (c := c) (q0 := q0) k
    unfold tuS
    split
    · show _ ≤ _ + 1; omega
    · split
      · show _ ≤ _ + 1; omega
      · split
        · show _ ≤ _ + 2; omega
        · show _ ≤ _ + 1; omega
theorem tuF_b {c : Nat → Int} {n lim ar : Nat} {u : Nat × Nat × Nat} (h : tuF c n lim ar u = -1) : u.1 < n ∧ u.1 < lim := by
  unfold tuF at h
  split at h
  · omega
  · omega
/-- the end of a kept list, with what holds there -/
theorem tuN_at {c : Nat → Int} {n lim ar q0 k : Nat} (hl : ∀ j, j < k → ¬ tuP c n lim ar q0 j) (h : tuP c n lim ar q0 k) : tuN c n lim ar q0 = k := by
  have hk : k < n + 2 := by
    rcases Nat.eq_zero_or_pos k with z | z
    · omega
    · have w := hl (k - 1) (by omega)
      have w2 := tuS_q (c := c) (q0 := q0) (k - 1)
      have w3 : tuF c n lim ar (tuS c q0 (k - 1)) = -1 := Classical.not_not.mp (fun y => w (Or.inr y))
      have w4 := (tuF_b w3).1
      omega
  unfold tuN
  rw [zlow_at h hl hk]
  rfl
theorem tuX_l {c : Nat → Int} {n lim ar q0 : Nat} (h : lim < q0) : tuX c n lim ar q0 = lim := if_pos h
theorem tuX_e {c : Nat → Int} {n lim ar q0 k : Nat} (hq : ¬ lim < q0) (hl : ∀ j, j < k → ¬ tuP c n lim ar q0 j) (h : (tuS c q0 k).2.1 = 0) : tuX c n lim ar q0 = -1 ∧ tuE c n lim ar q0 = (tuS c q0 k).1 := by
  unfold tuX tuE
  rw [tuN_at hl (Or.inl h), if_neg hq, if_pos h]
  exact ⟨rfl, rfl⟩
theorem tuX_f {c : Nat → Int} {n lim ar q0 k : Nat} (hq : ¬ lim < q0) (hl : ∀ j, j < k → ¬ tuP c n lim ar q0 j) (h : (tuS c q0 k).2.1 ≠ 0) (h2 : tuF c n lim ar (tuS c q0 k) ≠ -1) : tuX c n lim ar q0 = tuF c n lim ar (tuS c q0 k) := by
  unfold tuX
  rw [tuN_at hl (Or.inr h2), if_neg hq, if_neg h]
theorem tuS_n {c : Nat → Int} {n lim ar q0 k : Nat} (hc : tOk c n) (h : tuF c n lim ar (tuS c q0 k) = -1) : (tuS c q0 (k + 1)).1 ≤ n ∧ (tuS c q0 (k + 1)).1 ≤ lim := by
  have w := tuF_b h
  have e : tuS c q0 (k + 1) = if (tuS c q0 k).2.2 = 0 then ((tuS c q0 k).1 + 1, (if c (tuS c q0 k).1 = 40 then (tuS c q0 k).2.1 + 1 else if c (tuS c q0 k).1 = 41 then (tuS c q0 k).2.1 - 1 else (tuS c q0 k).2.1), if c (tuS c q0 k).1 = 34 then 1 else 0)
    else if c (tuS c q0 k).1 = 34 then ((tuS c q0 k).1 + 1, (tuS c q0 k).2.1, 0) else if c (tuS c q0 k).1 = 92 then ((tuS c q0 k).1 + 2, (tuS c q0 k).2.1, 1) else ((tuS c q0 k).1 + 1, (tuS c q0 k).2.1, 1) := rfl
  rw [e]
  by_cases h1 : (tuS c q0 k).2.2 = 0
  · rw [if_pos h1]
    exact ⟨w.1, w.2⟩
  · rw [if_neg h1]
    by_cases h2 : c (tuS c q0 k).1 = 34
    · rw [if_pos h2]
      exact ⟨w.1, w.2⟩
    · rw [if_neg h2]
      by_cases h3 : c (tuS c q0 k).1 = 92
      · rw [if_pos h3]
        unfold tuF at h
        rw [if_neg (by omega)] at h
        by_cases h4 : lim ≤ (tuS c q0 k).1 + 1 ∨ (c ((tuS c q0 k).1 + 1) ≠ 34 ∧ c ((tuS c q0 k).1 + 1) ≠ 92)
        · rw [if_pos ⟨h1, h3, h4⟩] at h
          omega
        · have h5 := hc.2.2 ((tuS c q0 k).1 + 1)
          show (tuS c q0 k).1 + 2 ≤ n ∧ (tuS c q0 k).1 + 2 ≤ lim
          omega
      · rw [if_neg h3]
        exact ⟨w.1, w.2⟩
/-- kept well: it ends within the text and the room -/
theorem tuX_b {c : Nat → Int} {n lim ar q0 : Nat} (hc : tOk c n) (h : tuX c n lim ar q0 = -1) : q0 < tuE c n lim ar q0 ∧ tuE c n lim ar q0 ≤ n ∧ tuE c n lim ar q0 ≤ lim := by
  unfold tuX at h
  split at h
  · omega
  · rename_i hq
    have w := tuS_q (c := c) (q0 := q0) (tuN c n lim ar q0)
    have q := zlow_sp (tuP c n lim ar q0) (n + 2)
    unfold tuE
    rcases q with ⟨q1, q2⟩ | ⟨r, q1, q2, q3, q4⟩
    · exfalso
      have w2 := tuS_q (c := c) (q0 := q0) n
      refine q2 n (by omega) (Or.inr (fun y => ?_))
      have w3 := (tuF_b y).1
      omega
    · have e : tuN c n lim ar q0 = r := by unfold tuN; rw [q2]; rfl
      rw [e] at h w ⊢
      have hr : r ≠ 0 := fun z => by
        subst z
        have z1 : (tuS c q0 0).2.1 = 1 := rfl
        have z2 : tuF c n lim ar (tuS c q0 0) ≠ -1 := by
          rcases q3 with y | y
          · omega
          · exact y
        rw [if_neg (by omega)] at h
        exact z2 h
      have w3 : tuF c n lim ar (tuS c q0 (r - 1)) = -1 := Classical.not_not.mp (fun y => q4 (r - 1) (by omega) (Or.inr y))
      have w4 := tuS_n hc w3
      have e2 : r - 1 + 1 = r := by omega
      rw [e2] at w4
      exact ⟨by omega, w4⟩
