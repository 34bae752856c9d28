/-! A ROUND -/
def bOf (s : BdS) : Nat → Nat → Nat
  | 0 => fun _ => 0
  | k + 1 => if 0 < bN s k 1 ∧ bN s k 2 ≠ 1 then upF (bOf s k) (bOpn s k) k else bOf s k
theorem bOf_lt (s : BdS) : ∀ k j, j < bOpn s k → bOf s k j < k
  | 0, j, h => absurd h (Nat.not_lt_zero j)
  | k + 1, j, h => by
    have w := bOf_lt s k j
    unfold bOf
    unfold bOpn at h
    by_cases e : 0 < bN s k 1 ∧ bN s k 2 ≠ 1
    · rw [if_pos e]
      rw [if_pos e] at h
      by_cases q : j = bOpn s k
      · rw [q, upF_at]; omega
      · rw [upF_ne q]
        have := w (by omega)
        omega
    · rw [if_neg e]
      rw [if_neg e] at h
      have := w (by omega)
      omega
noncomputable def bSw : Nat → BdS × (Nat → Nat) → BdS × (Nat → Nat)
  | 0, x => x
  | k + 1, x => bSw k (bs_sd x.1 (bSe x.1), upF (upF x.2 (k + 1) (x.2 (bDr x.1 % (k + 2)).toNat)) (bDr x.1 % (k + 2)).toNat (x.2 (k + 1)))
noncomputable def bRd (f : Nat → Nat) (s : BdS) : Nat → BdS
  | 0 => s
  | k + 1 => if 0 < bN (bRd f s k) (f k) 1 ∧ bN (bRd f s k) (f k) 2 ≠ 1 then bLd (bRd f s k) (f k) else bRd f s k
noncomputable def bGr (s : BdS) : BdS := bRd (bSw (bOpn s (bnn s) - 1) (s, bOf s (bnn s))).2 (bSw (bOpn s (bnn s) - 1) (s, bOf s (bnn s))).1 (bOpn s (bnn s))
theorem bGd_sd {s : BdS} {x : Int} (h : bGd s) : bGd (bs_sd s x) := h
theorem bGd_02 {s : BdS} {n : Nat} (h : bGd s) (hn : n < bnn s) (h2 : bN s n 2 ≠ 1) : bN s n 2 = 0 := by
  rcases (h.2.2.2.2.1 n hn).2.2.1 with q | q
  · exact q
  · exact absurd q h2
