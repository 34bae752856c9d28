/-! BOARDS kept good: a pad put -/
theorem bcn_cg {P Q : Nat → Nat → Int} {n : Int} : ∀ {k : Nat}, (∀ p, p < k → P p 3 = Q p 3) → bcn P n k = bcn Q n k
  | 0, _ => rfl
  | k + 1, h => by
    have w := bcn_cg (n := n) (k := k) (fun p hp => h p (by omega))
    show bcn P n k + (if P k 3 = n then 1 else 0) = bcn Q n k + (if Q k 3 = n then 1 else 0)
    rw [w, h k (by omega)]
theorem bGd_pad {s : BdS} {n c : Nat} {t o : Int} (h : bGd s) (hn : n < bnn s) (hc : c < bK s) (hf : bFree s n c) (hnp : bnp s < 40) (ht : 0 ≤ t ∧ t < 60) (ho : 0 ≤ o ∧ o < 16) : bGd (bPad s n c t o) := by
  obtain ⟨g1, ⟨gnp, gnn⟩, gc, gp, gn, gco, gnd, gun⟩ := h
  have gB9 : bK s ≤ 1024 := g1.2.2.2
  obtain ⟨f1, f2, f3, f4⟩ := hf
  have eh : ∀ x, bho (bPad s n c t o) x = if x = c then (n : Int) else (if bho s x = n ∧ bpa s x = -1 then -1 else bho s x) := fun x => rfl
  have ep : ∀ x, bpa (bPad s n c t o) x = upF (bpa s) c (bnp s) x := fun x => rfl
  have eP : ∀ p y, bP (bPad s n c t o) p y = upR (bP s) (bnp s) t o c n 0 p y := fun p y => rfl
  have eb : ∀ m : Int, bcn (upR (bP s) (bnp s) t o c n 0) m (bnp s + 1) = bcn (bP s) m (bnp s) + (if (n : Int) = m then 1 else 0) := fun m => by
    show bcn (upR (bP s) (bnp s) t o c n 0) m (bnp s) + (if upR (bP s) (bnp s) t o c n 0 (bnp s) 3 = m then 1 else 0) = _
    rw [bcn_cg (Q := bP s) (fun p hp => upR_ne (by omega))]
    have e3 : upR (bP s) (bnp s) t o c n 0 (bnp s) 3 = n := if_pos rfl
    rw [e3]
  refine ⟨g1, ⟨by show bnp s + 1 ≤ 40; omega, gnn⟩, fun x hx => ?_, fun p hp => ?_, fun m hm => ?_, gco, gnd, fun a b hab hb => ?_⟩
  · obtain ⟨a1, a2, a3, a4, a5, a6, a7, a8⟩ := gc x hx
    show bba s x ≤ 1 ∧ (bba s x = 1 → bho (bPad s n c t o) x = -1) ∧ -1 ≤ bho (bPad s n c t o) x ∧ bho (bPad s n c t o) x < bnn s ∧ -1 ≤ upF (bpa s) c (bnp s) x ∧ upF (bpa s) c (bnp s) x < (bnp s + 1 : Nat) ∧ (upF (bpa s) c (bnp s) x ≠ -1 → upR (bP s) (bnp s) t o c n 0 (upF (bpa s) c (bnp s) x).toNat 2 = x) ∧ (bK s ≤ x → bho (bPad s n c t o) x = -1)
    rw [eh]
    by_cases e : x = c
    · subst e
      rw [if_pos rfl, upF_at]
      refine ⟨a1, fun q => by omega, by omega, by omega, by omega, by omega, fun _ => ?_, fun q => by omega⟩
      show upR (bP s) (bnp s) t o x n 0 (bnp s) 2 = x
      exact if_pos rfl
    · rw [if_neg e, upF_ne e]
      have hP : bpa s x ≠ -1 → upR (bP s) (bnp s) t o c n 0 (bpa s x).toNat 2 = x := fun q => by
        rw [upR_ne (by omega)]
        exact a7 q
      by_cases q : bho s x = n ∧ bpa s x = -1
      · rw [if_pos q]
        exact ⟨a1, fun _ => rfl, by omega, by omega, a5, by omega, hP, fun _ => rfl⟩
      · rw [if_neg q]
        exact ⟨a1, a2, a3, a4, a5, by omega, hP, a8⟩
  · have hp' : p < bnp s + 1 := hp
    show (0 ≤ upR (bP s) (bnp s) t o c n 0 p 0 ∧ upR (bP s) (bnp s) t o c n 0 p 0 < 60) ∧ (0 ≤ upR (bP s) (bnp s) t o c n 0 p 1 ∧ upR (bP s) (bnp s) t o c n 0 p 1 < 16) ∧ (0 ≤ upR (bP s) (bnp s) t o c n 0 p 2 ∧ upR (bP s) (bnp s) t o c n 0 p 2 < (bK s : Nat)) ∧ (0 ≤ upR (bP s) (bnp s) t o c n 0 p 3 ∧ upR (bP s) (bnp s) t o c n 0 p 3 < bnn s) ∧ upF (bpa s) c (bnp s) (upR (bP s) (bnp s) t o c n 0 p 2).toNat = p ∧ bho (bPad s n c t o) (upR (bP s) (bnp s) t o c n 0 p 2).toNat = upR (bP s) (bnp s) t o c n 0 p 3
    by_cases e : p = bnp s
    · subst e
      have e0 : upR (bP s) (bnp s) t o c n 0 (bnp s) 0 = t := if_pos rfl
      have e1 : upR (bP s) (bnp s) t o c n 0 (bnp s) 1 = o := if_pos rfl
      have e2 : upR (bP s) (bnp s) t o c n 0 (bnp s) 2 = c := if_pos rfl
      have e3 : upR (bP s) (bnp s) t o c n 0 (bnp s) 3 = n := if_pos rfl
      rw [e0, e1, e2, e3, eh, show ((c : Nat) : Int).toNat = c from rfl, upF_at, if_pos rfl]
      exact ⟨ht, ho, by omega, by omega, rfl, rfl⟩
    · obtain ⟨b1, b2, b3, b4, b5, b6⟩ := gp p (by omega)
      rw [upR_ne e, upR_ne e, upR_ne e, upR_ne e]
      have hne : (bP s p 2).toNat ≠ c := fun q => by
        rw [q] at b5
        omega
      refine ⟨b1, b2, b3, b4, by rw [upF_ne hne]; exact b5, ?_⟩
      rw [eh, if_neg hne, if_neg (fun q => by have := q.2; omega)]
      exact b6
  · have hm' : m < bnn s := hm
    obtain ⟨c1, c2, c3, c4, c5, c6, c7, c8⟩ := gn m hm'
    have n1 := (gn n hn).1
    show up2z (up2z (bN s) n 2 0) n 1 (bN s n 1 + 1) m 1 = bcn (upR (bP s) (bnp s) t o c n 0) m (bnp s + 1) ∧ bcn (upR (bP s) (bnp s) t o c n 0) m (bnp s + 1) ≤ 5 ∧ (up2z (up2z (bN s) n 2 0) n 1 (bN s n 1 + 1) m 2 = 0 ∨ up2z (up2z (bN s) n 2 0) n 1 (bN s n 1 + 1) m 2 = 1) ∧ (0 ≤ up2z (up2z (bN s) n 2 0) n 1 (bN s n 1 + 1) m 5 ∧ up2z (up2z (bN s) n 2 0) n 1 (bN s n 1 + 1) m 5 < 4096) ∧ upF (bwl s) n 0 m ≤ 1024 ∧ (up2z (up2z (bN s) n 2 0) n 1 (bN s n 1 + 1) m 2 = 0 → upF (bwl s) n 0 m = 0) ∧
      (∀ k, k < upF (bwl s) n 0 m → bwy s m k < bK s ∧ bho (bPad s n c t o) (bwy s m k) = m) ∧ ∀ x, x < 1024 → bho (bPad s n c t o) x = m → upF (bpa s) c (bnp s) x = -1 → zex (fun k => k < upF (bwl s) n 0 m ∧ bwy s m k = x)
    rw [eb, up2z_ne (show ¬ (m = n ∧ 2 = 1) by omega), up2z_ne (show ¬ (m = n ∧ 5 = 1) by omega), up2z_ne (show ¬ (m = n ∧ 5 = 2) by omega)]
    by_cases e : m = n
    · subst e
      rw [up2z_at, up2z_at, upF_at, if_pos rfl]
      refine ⟨by omega, by omega, Or.inl rfl, c4, by omega, fun _ => rfl, fun k hk => absurd hk (Nat.not_lt_zero k), fun x hx h1 h2 => ?_⟩
      exfalso
      by_cases q : x = c
      · rw [q, upF_at] at h2
        omega
      · rw [upF_ne q] at h2
        rw [eh, if_neg q] at h1
        by_cases q2 : bho s x = m ∧ bpa s x = -1
        · rw [if_pos q2] at h1
          omega
        · rw [if_neg q2] at h1
          exact q2 ⟨h1, h2⟩
    · rw [up2z_ne (show ¬ (m = n ∧ 1 = 1) by omega), up2z_ne (show ¬ (m = n ∧ 1 = 2) by omega), up2z_ne (show ¬ (m = n ∧ 2 = 2) by omega), upF_ne e, if_neg (by omega)]
      have c7' : ∀ k, k < bwl s m → bwy s m k < bK s ∧ bho s (bwy s m k) = m := c7
      refine ⟨c1, by omega, c3, c4, c5, c6, fun k hk => ?_, fun x hx h1 h2 => ?_⟩
      · have w := c7' k hk
        have w2 := w.2
        refine ⟨w.1, ?_⟩
        have hne : bwy s m k ≠ c := fun q => by
          rw [q] at w2
          omega
        rw [eh, if_neg hne, if_neg (fun q => by have := q.1; omega)]
        exact w2
      · have hne : x ≠ c := fun q => by
          rw [q, upF_at] at h2
          omega
        rw [upF_ne hne] at h2
        refine c8 x hx ?_ h2
        rw [eh, if_neg hne] at h1
        by_cases q2 : bho s x = n ∧ bpa s x = -1
        · rw [if_pos q2] at h1
          omega
        · rw [if_neg q2] at h1
          exact h1
  · show up2z (up2z (bN s) n 2 0) n 1 (bN s n 1 + 1) a 0 ≠ up2z (up2z (bN s) n 2 0) n 1 (bN s n 1 + 1) b 0
    rw [up2z_ne (by omega), up2z_ne (by omega), up2z_ne (by omega), up2z_ne (by omega)]
    exact gun a b hab hb
