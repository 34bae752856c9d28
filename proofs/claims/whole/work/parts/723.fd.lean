/-! fd: SCRIPTS: an expression's codes tell a fault or a value -/
def evH (E : EvE) (x : ExR) : Prop := x.1 = 1 → ∃ f v, evG E x.2.2 f v
def isB (c : Int) : Prop := c = 42 ∨ c = 47 ∨ c = 37 ∨ c = 43 ∨ c = 45 ∨ c = 60 ∨ c = 61
theorem evH_o {E : EvE} {c : Nat → Int} {x y : ExR} (hx : evH E x) (h1 : x.1 = 1) (hy : evH E y) (hb : isB (c x.2.1)) : evH E (exO c x y) := fun h => by
  unfold exO at *
  by_cases e : y.1 = 1
  · rw [if_pos e]
    obtain ⟨f, v, q⟩ := hx h1
    obtain ⟨g, w, q2⟩ := hy e
    exact ⟨_, _, evG_b q q2 hb⟩
  · rw [if_neg e] at h
    exact absurd h e
theorem exLp_H {E : EvE} {c : Nat → Int} {a b d : Int} (ha : isB a ∧ isB b ∧ isB d) {A : Nat → ExR} (hA : ∀ p, evH E (A p)) : ∀ {m : Nat} {x : ExR}, evH E x → evH E (exLp c a b d A m x)
  | 0, x, h => h
  | m + 1, x, h => by
    show evH E (if x.1 = 1 ∧ (c x.2.1 = a ∨ c x.2.1 = b ∨ c x.2.1 = d) then exLp c a b d A m (exO c x (A (x.2.1 + 1))) else x)
    by_cases e : x.1 = 1 ∧ (c x.2.1 = a ∨ c x.2.1 = b ∨ c x.2.1 = d)
    · rw [if_pos e]
      refine exLp_H ha hA (evH_o h e.1 (hA _) ?_)
      rcases e.2 with q | q | q
      · rw [q]; exact ha.1
      · rw [q]; exact ha.2.1
      · rw [q]; exact ha.2.2
    · rw [if_neg e]
      exact h
theorem exPr_H {E : EvE} {c : Nat → Int} {A : Nat → ExR} (hA : ∀ p, evH E (A p)) (p : Nat) : evH E (exPr c A p) := exLp_H ⟨Or.inl rfl, Or.inr (Or.inl rfl), Or.inr (Or.inr (Or.inl rfl))⟩ hA (hA p)
theorem exSm_H {E : EvE} {c : Nat → Int} {A : Nat → ExR} (hA : ∀ p, evH E (A p)) (p : Nat) : evH E (exSm c A p) := exLp_H ⟨Or.inr (Or.inr (Or.inr (Or.inl rfl))), Or.inr (Or.inr (Or.inr (Or.inr (Or.inl rfl)))), Or.inr (Or.inr (Or.inr (Or.inr (Or.inl rfl))))⟩ (exPr_H hA) (exPr_H hA p)
theorem exCm_H {E : EvE} {c : Nat → Int} {A : Nat → ExR} (hA : ∀ p, evH E (A p)) (p : Nat) : evH E (exCm c A p) := by
  unfold exCm exC1
  by_cases e : (exSm c A p).1 = 1 ∧ (c (exSm c A p).2.1 = 60 ∨ c (exSm c A p).2.1 = 61)
  · rw [if_pos e]
    refine evH_o (exSm_H hA p) e.1 (exSm_H hA _) ?_
    rcases e.2 with q | q
    · rw [q]; exact Or.inr (Or.inr (Or.inr (Or.inr (Or.inr (Or.inl rfl)))))
    · rw [q]; exact Or.inr (Or.inr (Or.inr (Or.inr (Or.inr (Or.inr rfl)))))
  · rw [if_neg e]
    exact exSm_H hA p
theorem exB_H {E : EvE} {c : Nat → Int} (p : Nat) : evH E (exB c p) := fun h => by
  unfold exB at *
  by_cases e1 : 48 ≤ c p ∧ c p ≤ 57
  · rw [if_pos e1]; exact ⟨_, _, evG_1 (Or.inl rfl)⟩
  · rw [if_neg e1] at h ⊢
    by_cases e2 : 97 ≤ c p ∧ c p ≤ 122
    · rw [if_pos e2]; exact ⟨_, _, evG_1 (Or.inr (Or.inl rfl))⟩
    · rw [if_neg e2] at h ⊢
      by_cases e3 : c p = 35
      · rw [if_pos e3]; exact ⟨_, _, evG_1 (Or.inr (Or.inr rfl))⟩
      · rw [if_neg e3] at h
        exact absurd (show (0 : Nat) = 1 from h) (by decide)
theorem exUn_H {E : EvE} {u : Int} {x : ExR} (hu : u = 95 ∨ u = 39) (hx : evH E x) : evH E (exUn u x) := fun h => by
  unfold exUn at *
  by_cases e : x.1 = 1
  · rw [if_pos e]
    obtain ⟨f, v, q⟩ := hx e
    exact ⟨_, _, evG_u q (by omega)⟩
  · rw [if_neg e] at h
    exact absurd h e
theorem exFd_H {E : EvE} {c : Nat → Int} {x : ExR} (hx : evH E x) : evH E (exFd c x) := fun h => by
  unfold exFd at *
  by_cases e : x.1 = 1
  · rw [if_pos e] at h ⊢
    by_cases e2 : c x.2.1 = 58
    · rw [if_pos e2] at h ⊢
      by_cases e3 : 48 ≤ c (x.2.1 + 1) ∧ c (x.2.1 + 1) ≤ 53
      · rw [if_pos e3]
        obtain ⟨f, v, q⟩ := hx e
        exact ⟨_, _, evG_u q (Or.inr (Or.inl rfl))⟩
      · rw [if_neg e3] at h
        exact absurd (show (0 : Nat) = 1 from h) (by decide)
    · rw [if_neg e2] at h
      exact absurd (show (0 : Nat) = 1 from h) (by decide)
  · rw [if_neg e] at h
    exact absurd h e
theorem exPa_H {E : EvE} {c : Nat → Int} {x : ExR} (hx : evH E x) : evH E (exPa c x) := fun h => by
  unfold exPa at *
  by_cases e : x.1 = 1
  · rw [if_pos e] at h ⊢
    by_cases e2 : c x.2.1 = 41
    · rw [if_pos e2]; exact hx e
    · rw [if_neg e2] at h
      exact absurd (show (0 : Nat) = 1 from h) (by decide)
  · rw [if_neg e] at h
    exact absurd h e
theorem exAt_H {E : EvE} {c : Nat → Int} : ∀ (r p : Nat), evH E (exAt c r p)
  | 0, p => exB_H p
  | r + 1, p => by
    show evH E (if c p = 40 then exPa c (exCm c (exAt c r) (p + 1)) else if c p = 45 then exUn 95 (exAt c r (p + 1)) else if c p = 39 then exUn 39 (exAt c r (p + 1)) else if c p = 64 then exFd c (exAt c r (p + 1)) else exB c p)
    by_cases e1 : c p = 40
    · rw [if_pos e1]; exact exPa_H (exCm_H (exAt_H r) _)
    · rw [if_neg e1]
      by_cases e2 : c p = 45
      · rw [if_pos e2]; exact exUn_H (Or.inl rfl) (exAt_H r _)
      · rw [if_neg e2]
        by_cases e3 : c p = 39
        · rw [if_pos e3]; exact exUn_H (Or.inr rfl) (exAt_H r _)
        · rw [if_neg e3]
          by_cases e4 : c p = 64
          · rw [if_pos e4]; exact exFd_H (exAt_H r _)
          · rw [if_neg e4]; exact exB_H p
theorem exEx_H {E : EvE} {c : Nat → Int} (r p : Nat) : evH E (exEx c r p) := exCm_H (exAt_H r) p
