/-! DISTANCES from a tree -/
theorem zleast {P : Nat → Prop} (h : ∃ k, P k) : ∃ k, P k ∧ ∀ j, P j → k ≤ j := by
  obtain ⟨k, hk⟩ := h
  induction k using Nat.strongRecOn with
  | ind k ih =>
    by_cases e : ∃ j, j < k ∧ P j
    · obtain ⟨j, h1, h2⟩ := e
      exact ih j h1 h2
    · exact ⟨k, hk, fun j hj => by rcases Nat.lt_or_ge j k with q | q; exact absurd ⟨j, q, hj⟩ e; exact q⟩
noncomputable def zmin (P : Nat → Prop) : Int := @dite Int (∃ k, P k) (Classical.propDecidable _) (fun h => ((Classical.choose (zleast h) : Nat) : Int)) (fun _ => -1)
theorem zmin_no {P : Nat → Prop} (h : ∀ k, ¬ P k) : zmin P = -1 := dif_neg (fun q => by obtain ⟨k, hk⟩ := q; exact h k hk)
theorem zmin_sp {P : Nat → Prop} {k : Nat} (h : P k) : 0 ≤ zmin P ∧ zmin P ≤ k ∧ P (zmin P).toNat := by
  have e : zmin P = ((Classical.choose (zleast ⟨k, h⟩) : Nat) : Int) := dif_pos ⟨k, h⟩
  have w := Classical.choose_spec (zleast ⟨k, h⟩)
  rw [e]
  refine ⟨Int.natCast_nonneg _, ?_, w.1⟩
  have := w.2 k h
  omega
theorem zmin_ge (P : Nat → Prop) : zmin P = -1 ∨ (0 ≤ zmin P ∧ P (zmin P).toNat) := by
  by_cases e : ∃ k, P k
  · obtain ⟨k, hk⟩ := e
    have w := zmin_sp hk
    exact Or.inr ⟨w.1, w.2.2⟩
  · exact Or.inl (zmin_no (fun k hk => e ⟨k, hk⟩))
abbrev bK (s : BdS) : Nat := bW s * bH s * bD s
abbrev bnb (s : BdS) (c x : Nat) : Int := nbI (bW s) (bH s) (bD s) c x
def bHl (s : BdS) (n : Int) (c : Nat) : Prop := bho s c ≠ -1 ∧ bho s c ≠ n
/-- what it costs to come to a cell, or -1 -/
noncomputable def bTl (s : BdS) (n : Int) (r : Int) (c : Nat) : Int := zite (bba s c ≠ 0 ∨ (bHl s n c ∧ (r = 0 ∨ bpa s c ≠ -1))) (-1) (bEnt s n c + zite (bHl s n c) 100 0)
theorem bTl_ge (s : BdS) (n r : Int) (c : Nat) : bTl s n r c = -1 ∨ 0 ≤ bTl s n r c := by
  unfold bTl
  by_cases e : bba s c ≠ 0 ∨ (bHl s n c ∧ (r = 0 ∨ bpa s c ≠ -1))
  · rw [zite_t e]; exact Or.inl rfl
  · rw [zite_f e]
    right
    by_cases e2 : bHl s n c
    · rw [zite_t e2]; omega
    · rw [zite_f e2]; omega
/-- a cell that steps lead to from the tree, and what they cost -/
def bRk (s : BdS) (n r : Int) (T : Nat → Prop) : Nat → Nat → Nat → Prop
  | 0, c, k => T c ∧ c < bK s ∧ k = 0
  | i + 1, c, k => bRk s n r T i c k ∨ ∃ c' x k', bRk s n r T i c' k' ∧ x < 6 ∧ bnb s c' x = c ∧ bTl s n r c ≠ -1 ∧ (k : Int) = k' + bStp s c' x + bTl s n r c
noncomputable def bDi (s : BdS) (n r : Int) (T : Nat → Prop) (c : Nat) : Int := zmin (fun k => ∃ i, bRk s n r T i c k)
theorem bRk_lt {s : BdS} {n r : Int} {T : Nat → Prop} (hb : bK s ≤ 1024) : ∀ {i c k : Nat}, bRk s n r T i c k → c < bK s
  | 0, c, k, h => h.2.1
  | i + 1, c, k, h => by
    rcases h with h | ⟨c', x, k', h1, h2, h3, -⟩
    · exact bRk_lt hb h
    · have w := nbI_b (W := bW s) (H := bH s) (D := bD s) (c := c') (s := x) hb
      have h4 : nbI (bW s) (bH s) (bD s) c' x = c := h3
      have h5 : (bW s * bH s * bD s : Nat) = bK s := rfl
      omega
theorem bDi_lt {s : BdS} {n r : Int} {T : Nat → Prop} {c : Nat} (hb : bK s ≤ 1024) (h : 0 ≤ bDi s n r T c) : c < bK s := by
  rcases zmin_ge (fun k => ∃ i, bRk s n r T i c k) with e | e
  · unfold bDi at h; omega
  · obtain ⟨i, hi⟩ := e.2
    exact bRk_lt hb hi
theorem bDi_ge (s : BdS) (n r : Int) (T : Nat → Prop) (c : Nat) : bDi s n r T c = -1 ∨ 0 ≤ bDi s n r T c := by
  rcases zmin_ge (fun k => ∃ i, bRk s n r T i c k) with e | e
  · exact Or.inl e
  · exact Or.inr e.1
theorem bDi_T {s : BdS} {n r : Int} {T : Nat → Prop} {c : Nat} (hc : c < bK s) (h : T c) : bDi s n r T c = 0 := by
  have w := zmin_sp (P := fun k => ∃ i, bRk s n r T i c k) (k := 0) ⟨0, h, hc, rfl⟩
  have e : bDi s n r T c = zmin (fun k => ∃ i, bRk s n r T i c k) := rfl
  omega
theorem bDi_s {s : BdS} {n r : Int} {T : Nat → Prop} {c x d : Nat} (h : 0 ≤ bDi s n r T c) (hx : x < 6) (hd : bnb s c x = d) (ht : bTl s n r d ≠ -1) : 0 ≤ bDi s n r T d ∧ bDi s n r T d ≤ bDi s n r T c + bStp s c x + bTl s n r d := by
  rcases zmin_ge (fun k => ∃ i, bRk s n r T i c k) with e | e
  · unfold bDi at h; omega
  · obtain ⟨i, hi⟩ := e.2
    have t0 := bTl_ge s n r d
    have w := zmin_sp (P := fun k => ∃ i, bRk s n r T i d k) (k := (bDi s n r T c + bStp s c x + bTl s n r d).toNat) ⟨i + 1, Or.inr ⟨c, x, _, hi, hx, hd, ht, by
      have e3 : bDi s n r T c = zmin (fun k => ∃ i, bRk s n r T i c k) := rfl
      omega⟩⟩
    have e2 : bDi s n r T d = zmin (fun k => ∃ i, bRk s n r T i d k) := rfl
    omega
theorem bDi_p {s : BdS} {n r : Int} {T : Nat → Prop} {d : Nat} (h : 0 ≤ bDi s n r T d) (hT : ¬ T d) : ∃ c x, x < 6 ∧ bnb s c x = d ∧ 0 ≤ bDi s n r T c ∧ bTl s n r d ≠ -1 ∧ bDi s n r T d = bDi s n r T c + bStp s c x + bTl s n r d := by
  have key : ∀ i k, bRk s n r T i d k → ∃ c x, x < 6 ∧ bnb s c x = d ∧ 0 ≤ bDi s n r T c ∧ bTl s n r d ≠ -1 ∧ bDi s n r T c + bStp s c x + bTl s n r d ≤ k := by
    intro i
    induction i with
    | zero => intro k hk; exact absurd hk.1 hT
    | succ i ih =>
      intro k hk
      rcases hk with hk | ⟨c', x, k', h1, h2, h3, h4, h5⟩
      · exact ih k hk
      · have w := zmin_sp (P := fun k => ∃ i, bRk s n r T i c' k) (k := k') ⟨i, h1⟩
        have e2 : bDi s n r T c' = zmin (fun k => ∃ i, bRk s n r T i c' k) := rfl
        exact ⟨c', x, h2, h3, by omega, h4, by omega⟩
  rcases zmin_ge (fun k => ∃ i, bRk s n r T i d k) with e | e
  · unfold bDi at h; omega
  · obtain ⟨i, hi⟩ := e.2
    obtain ⟨c, x, h1, h2, h3, h4, h5⟩ := key i _ hi
    have e2 : bDi s n r T d = zmin (fun k => ∃ i, bRk s n r T i d k) := rfl
    have w := (bDi_s h3 h1 h2 h4).2
    exact ⟨c, x, h1, h2, h3, h4, by omega⟩
/-- rows that keep what distances keep are the distances -/
theorem bDi_one {s : BdS} {n r : Int} {T : Nat → Prop} {D : Nat → Int} (hb : bK s ≤ 1024) (h0 : ∀ c, c < bK s → D c = -1 ∨ 0 ≤ D c) (h1 : ∀ c, c < bK s → T c → D c = 0)
    (h2 : ∀ c x d : Nat, c < bK s → 0 ≤ D c → x < 6 → bnb s c x = d → bTl s n r d ≠ -1 → 0 ≤ D d ∧ D d ≤ D c + bStp s c x + bTl s n r d)
    (h3 : ∀ d, d < bK s → 0 ≤ D d → ¬ T d → ∃ c x, c < bK s ∧ x < 6 ∧ bnb s c x = d ∧ 0 ≤ D c ∧ bTl s n r d ≠ -1 ∧ D c + bStp s c x + bTl s n r d ≤ D d) : ∀ c, c < bK s → D c = bDi s n r T c := by
  have a1 : ∀ i c k, bRk s n r T i c k → 0 ≤ D c ∧ D c ≤ k := by
    intro i
    induction i with
    | zero =>
      intro c k hk
      rw [h1 c hk.2.1 hk.1]
      omega
    | succ i ih =>
      intro c k hk
      rcases hk with hk | ⟨c', x, k', q1, q2, q3, q4, q5⟩
      · exact ih c k hk
      · have w := ih c' k' q1
        have w2 := h2 c' x c (bRk_lt hb q1) w.1 q2 q3 q4
        omega
  have a2 : ∀ m c, c < bK s → 0 ≤ D c → D c ≤ (m : Nat) → ∃ i, bRk s n r T i c (D c).toNat := by
    intro m
    induction m with
    | zero =>
      intro c hc h4 h5
      by_cases hT : T c
      · exact ⟨0, hT, hc, by omega⟩
      · obtain ⟨c', x, -, q2, q3, q4, q5, q6⟩ := h3 c hc h4 hT
        have t0 := bTl_ge s n r c
        have t1 : 2 ≤ bStp s c' x := by
          unfold bStp
          split
          · omega
          · split
            · omega
            · split <;> omega
        omega
    | succ m ih =>
      intro c hc h4 h5
      by_cases hT : T c
      · exact ⟨0, hT, hc, by rw [h1 c hc hT]; rfl⟩
      · obtain ⟨c', x, q1, q2, q3, q4, q5, q6⟩ := h3 c hc h4 hT
        have t0 := bTl_ge s n r c
        have t1 : 2 ≤ bStp s c' x := by
          unfold bStp
          split
          · omega
          · split
            · omega
            · split <;> omega
        obtain ⟨i, hi⟩ := ih c' q1 q4 (by omega)
        have w := h2 c' x c q1 q4 q2 q3 q5
        exact ⟨i + 1, Or.inr ⟨c', x, _, hi, q2, q3, q5, by omega⟩⟩
  intro c hc
  have e2 : bDi s n r T c = zmin (fun k => ∃ i, bRk s n r T i c k) := rfl
  rcases h0 c hc with q | q
  · rw [q, e2, zmin_no (fun k hk => by obtain ⟨i, hi⟩ := hk; have := a1 i c k hi; omega)]
  · obtain ⟨i, hi⟩ := a2 (D c).toNat c hc q (by omega)
    have w := zmin_sp (P := fun k => ∃ i, bRk s n r T i c k) ⟨i, hi⟩
    obtain ⟨i', hi'⟩ := w.2.2
    have w2 := a1 i' c _ hi'
    omega
/-- bounds: a distance is less than so many times the dearest step -/
theorem bStp_2 (s : BdS) (c x : Nat) : 2 ≤ bStp s c x := by
  unfold bStp
  split
  · omega
  · split
    · omega
    · split <;> omega
