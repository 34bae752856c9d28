/-! JOINING keeps what holds of boards -/
theorem bHx_1 {s : BdS} {n : Int} {f : Nat → Nat} : ∀ k, (∀ i j, i < j → j < k → f i ≠ f j) → ∀ c, bHx s n f k c ≤ bhi s c + 1 ∧ ((∀ j, j < k → f j ≠ c) → bHx s n f k c = bhi s c)
  | 0, _, c => ⟨Nat.le_succ _, fun _ => rfl⟩
  | k + 1, h, c => by
    have w := bHx_1 (s := s) (n := n) k (fun i j h1 h2 => h i j h1 (by omega)) c
    show zite (bHl s n (f k)) (upF (bHx s n f k) (f k) (bHx s n f k (f k) + 1)) (bHx s n f k) c ≤ bhi s c + 1 ∧ ((∀ j, j < k + 1 → f j ≠ c) → zite (bHl s n (f k)) (upF (bHx s n f k) (f k) (bHx s n f k (f k) + 1)) (bHx s n f k) c = bhi s c)
    by_cases e : bHl s n (f k)
    · rw [zite_t e]
      unfold upF
      by_cases q : c = f k
      · rw [if_pos q, ← q]
        have w2 := w.2 (fun j hj k2 => h j k hj (Nat.lt_succ_self k) (k2.trans q))
        exact ⟨by omega, fun k2 => absurd q.symm (k2 k (Nat.lt_succ_self k))⟩
      · rw [if_neg q]
        exact ⟨w.1, fun k2 => w.2 (fun j hj => k2 j (by omega))⟩
    · rw [zite_f e]
      exact ⟨w.1, fun k2 => w.2 (fun j hj => k2 j (by omega))⟩
theorem bRp_N4 (s : BdS) (v : Int) (m : Nat) : ∀ k : Nat, (bN s m 4 ≤ bN (bRp s v k) m 4 ∧ bN (bRp s v k) m 4 ≤ bN s m 4 + (if m < k then 1 else 0)) ∧ ∀ y, y ≠ 2 → y ≠ 4 → bN (bRp s v k) m y = bN s m y
  | 0 => ⟨⟨Int.le_refl _, by rw [if_neg (Nat.not_lt_zero m)]; exact Int.le_of_eq (Int.add_zero _).symm⟩, fun _ _ _ => rfl⟩
  | k + 1 => by
    have w := bRp_N4 s v m k
    have e0 : bRp s v (k + 1) = zite (bBit v k) (bRo (bRp s v k) k) (bRp s v k) := rfl
    rw [e0]
    by_cases e : bBit v k
    · rw [zite_t e]
      have e1 : ∀ y, bN (bRo (bRp s v k) k) m y = up2z (up2z (bN (bRp s v k)) k 2 0) k 4 (up2z (bN (bRp s v k)) k 2 0 k 4 + 1) m y := fun y => rfl
      refine ⟨?_, fun y h1 h2 => ?_⟩
      · rw [e1]
        by_cases q : m = k
        · subst q
          rw [up2z_at, up2z_ne (by omega), if_pos (Nat.lt_succ_self m)]
          have w1 := w.1
          rw [if_neg (Nat.lt_irrefl m)] at w1
          omega
        · rw [up2z_ne (by omega), up2z_ne (by omega)]
          have w1 := w.1
          by_cases q2 : m < k
          · rw [if_pos q2] at w1; rw [if_pos (by omega)]; exact w1
          · rw [if_neg q2] at w1; rw [if_neg (by omega)]; exact w1
      · rw [e1, up2z_ne (by omega), up2z_ne (by omega)]
        exact w.2 y h1 h2
    · rw [zite_f e]
      refine ⟨?_, w.2⟩
      have w1 := w.1
      by_cases q2 : m < k
      · rw [if_pos q2] at w1; rw [if_pos (by omega)]; exact w1
      · rw [if_neg q2] at w1
        refine ⟨w1.1, ?_⟩
        split <;> omega
/-- the nets' marks and ways after ripping -/
theorem bRp_2 (s : BdS) (v : Int) (m : Nat) : ∀ k : Nat, (bBit v m ∧ m < k → bN (bRp s v k) m 2 = 0 ∧ bwl (bRp s v k) m = 0) ∧ (¬ (bBit v m ∧ m < k) → bN (bRp s v k) m 2 = bN s m 2 ∧ bwl (bRp s v k) m = bwl s m)
  | 0 => ⟨fun h => absurd h.2 (Nat.not_lt_zero m), fun _ => ⟨rfl, rfl⟩⟩
  | k + 1 => by
    have w := bRp_2 s v m k
    have e0 : bRp s v (k + 1) = zite (bBit v k) (bRo (bRp s v k) k) (bRp s v k) := rfl
    rw [e0]
    by_cases e : bBit v k
    · rw [zite_t e]
      have e1 : bN (bRo (bRp s v k) k) m 2 = up2z (up2z (bN (bRp s v k)) k 2 0) k 4 (up2z (bN (bRp s v k)) k 2 0 k 4 + 1) m 2 := rfl
      have e2 : bwl (bRo (bRp s v k) k) m = upF (bwl (bRp s v k)) k 0 m := rfl
      rw [e1, e2, up2z_ne (by omega)]
      by_cases q : m = k
      · subst q
        rw [up2z_at]
        unfold upF
        rw [if_pos rfl]
        exact ⟨fun _ => ⟨rfl, rfl⟩, fun h => absurd ⟨e, Nat.lt_succ_self m⟩ h⟩
      · rw [up2z_ne (by omega)]
        unfold upF
        rw [if_neg q]
        exact ⟨fun h => w.1 ⟨h.1, by omega⟩, fun h => w.2 (fun h2 => h ⟨h2.1, by omega⟩)⟩
    · rw [zite_f e]
      refine ⟨fun h => w.1 ⟨h.1, ?_⟩, fun h => w.2 (fun h2 => h ⟨h2.1, by omega⟩)⟩
      have h1 := h.1
      have h2 := h.2
      have : m ≠ k := fun q => e (by rw [← q]; exact h1)
      omega
/-- who holds a cell after ripping -/
theorem bRp_h (s : BdS) (v : Int) (c : Nat) : ∀ k : Nat, (bho (bRp s v k) c = bho s c ∨ (bho (bRp s v k) c = -1 ∧ bpa s c = -1 ∧ ∃ m : Nat, m < k ∧ bBit v m ∧ bho s c = m)) ∧ (∀ m : Nat, m < k → bBit v m → bpa s c = -1 → bho (bRp s v k) c ≠ m)
  | 0 => ⟨Or.inl rfl, fun m h => absurd h (Nat.not_lt_zero m)⟩
  | k + 1 => by
    have w := bRp_h s v c k
    have p := bRp_p s v k
    have e0 : bRp s v (k + 1) = zite (bBit v k) (bRo (bRp s v k) k) (bRp s v k) := rfl
    rw [e0]
    by_cases e : bBit v k
    · rw [zite_t e]
      have e1 : bho (bRo (bRp s v k) k) c = if bho (bRp s v k) c = k ∧ bpa (bRp s v k) c = -1 then -1 else bho (bRp s v k) c := rfl
      rw [e1, p.2.2.2.2.1]
      by_cases q : bho (bRp s v k) c = k ∧ bpa s c = -1
      · rw [if_pos q]
        refine ⟨Or.inr ⟨rfl, q.2, ?_⟩, fun m _ _ _ => by omega⟩
        rcases w.1 with w1 | w1
        · exact ⟨k, Nat.lt_succ_self k, e, w1.symm.trans q.1⟩
        · have := w1.1
          have := q.1
          omega
      · rw [if_neg q]
        refine ⟨?_, fun m h1 h2 h3 h4 => ?_⟩
        · rcases w.1 with w1 | ⟨w1, w2, m, m1, m2, m3⟩
          · exact Or.inl w1
          · exact Or.inr ⟨w1, w2, m, by omega, m2, m3⟩
        · by_cases q2 : m = k
          · exact q ⟨by rw [h4, q2], h3⟩
          · exact w.2 m (by omega) h2 h3 h4
    · rw [zite_f e]
      refine ⟨?_, fun m h1 h2 h3 => w.2 m (by
        have : m ≠ k := fun q => e (by rw [← q]; exact h2)
        omega) h2 h3⟩
      rcases w.1 with w1 | ⟨w1, w2, m, m1, m2, m3⟩
      · exact Or.inl w1
      · exact Or.inr ⟨w1, w2, m, by omega, m2, m3⟩
theorem bRm_bit {s : BdS} {n : Int} {f : Nat → Nat} (hh : ∀ c, c < 1024 → -1 ≤ bho s c ∧ bho s c < 12) : ∀ k, (∀ j, j < k → f j < 1024) → ∀ o j : Nat, o < 12 → j < k → bHl s n (f j) → bho s (f j) = o → bBit (bRm s n f k) o
  | 0, _, o, j, _, hj, _, _ => absurd hj (Nat.not_lt_zero j)
  | k + 1, hf, o, j, ho, hj, h1, h2 => by
    have wb := (bRm_b (s := s) (n := n) (f := f) (m := 12) (Nat.le_refl 12) hh k (fun j hj => hf j (by omega))).1
    have hfk := hh (f k) (hf k (by omega))
    show bBit (zite (bHl s n (f k)) (zmk (bRm s n f k) (bho s (f k))) (bRm s n f k)) o
    by_cases q : j = k
    · subst q
      rw [zite_t h1]
      have q1 := h1.1
      exact (bBit_mk (by omega) (by omega) ho).2 (Or.inr h2)
    · have w := bRm_bit hh k (fun j hj => hf j (by omega)) o j ho (by omega) h1 h2
      by_cases e : bHl s n (f k)
      · rw [zite_t e]
        have q1 := e.1
        exact (bBit_mk (by omega) (by omega) ho).2 (Or.inl w)
      · rw [zite_f e]; exact w
