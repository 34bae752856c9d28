/-! BOARDS kept good: a net of a board begun, a pad asked for -/
theorem bGd_rs {s : BdS} {sn : Int} (h : bGd s) (hr : bRt s sn = -1 → bnn s < 12) : bGd (bRs s sn) := by
  by_cases e : bRt s sn = -1
  · rw [(bRs_n e).1]
    have hl := hr e
    obtain ⟨g1, ⟨gnp, gnn⟩, gc, gp, gn, gco, gnd, gun⟩ := h
    have hno : ∀ q, q < bnn s → bN s q 0 ≠ sn := by
      rcases zlow_sp (fun n => bN s n 0 = sn) (bnn s) with q | q
      · exact q.2
      · obtain ⟨r, r1, r2, -⟩ := q
        have e2 : bRt s sn = r := r2
        omega
    refine ⟨g1, ⟨gnp, by show bnn s + 1 ≤ 12; omega⟩, fun x hx => ?_, fun p hp => ?_, fun m hm => ?_, gco, gnd, fun a b hab hb => ?_⟩
    · obtain ⟨a1, a2, a3, a4, a5, a6, a7, a8⟩ := gc x hx
      exact ⟨a1, a2, a3, by show bho s x < ((bnn s + 1 : Nat) : Int); omega, a5, a6, a7, a8⟩
    · obtain ⟨b1, b2, b3, b4, b5, b6⟩ := gp p hp
      exact ⟨b1, b2, b3, ⟨b4.1, by show bP s p 3 < ((bnn s + 1 : Nat) : Int); have := b4.2; omega⟩, b5, b6⟩
    · have hm' : m < bnn s + 1 := hm
      show upR (bN s) (bnn s) sn 0 0 0 0 m 1 = bcn (bP s) m (bnp s) ∧ bcn (bP s) m (bnp s) ≤ 5 ∧ (upR (bN s) (bnn s) sn 0 0 0 0 m 2 = 0 ∨ upR (bN s) (bnn s) sn 0 0 0 0 m 2 = 1) ∧ (0 ≤ upR (bN s) (bnn s) sn 0 0 0 0 m 5 ∧ upR (bN s) (bnn s) sn 0 0 0 0 m 5 < 4096) ∧ upF (bwl s) (bnn s) 0 m ≤ 1024 ∧ (upR (bN s) (bnn s) sn 0 0 0 0 m 2 = 0 → upF (bwl s) (bnn s) 0 m = 0) ∧
        (∀ k, k < upF (bwl s) (bnn s) 0 m → bwy s m k < bK s ∧ bho s (bwy s m k) = m) ∧ ∀ x, x < 1024 → bho s x = m → bpa s x = -1 → zex (fun k => k < upF (bwl s) (bnn s) 0 m ∧ bwy s m k = x)
      by_cases q : m = bnn s
      · subst q
        have w : ∀ p, p ≤ bnp s → bcn (bP s) (bnn s) p = 0 := by
          intro p
          induction p with
          | zero => intro _; rfl
          | succ p ih =>
            intro hp2
            have := (gp p (by omega)).2.2.2.1.2
            unfold bcn
            rw [ih (by omega), if_neg (by omega)]
        have e1 : upR (bN s) (bnn s) sn 0 0 0 0 (bnn s) 1 = 0 := if_pos rfl
        have e2 : upR (bN s) (bnn s) sn 0 0 0 0 (bnn s) 2 = 0 := if_pos rfl
        have e5 : upR (bN s) (bnn s) sn 0 0 0 0 (bnn s) 5 = 0 := if_pos rfl
        rw [e1, e2, e5, upF_at, w _ (Nat.le_refl _)]
        refine ⟨rfl, by omega, Or.inl rfl, ⟨Int.le_refl 0, by decide⟩, by omega, fun _ => rfl, fun k hk => absurd hk (Nat.not_lt_zero k), fun x hx h1 _ => ?_⟩
        exfalso
        have := (gc x hx).2.2.2.1
        omega
      · rw [upR_ne q, upR_ne q, upR_ne q, upF_ne q]
        exact gn m (by omega)
    · have hb' : b < bnn s + 1 := hb
      show upR (bN s) (bnn s) sn 0 0 0 0 a 0 ≠ upR (bN s) (bnn s) sn 0 0 0 0 b 0
      rw [upR_ne (show a ≠ bnn s by omega)]
      by_cases q : b = bnn s
      · have e0 : upR (bN s) (bnn s) sn 0 0 0 0 b 0 = sn := by rw [q]; exact if_pos rfl
        rw [e0]
        exact hno a (by omega)
      · rw [upR_ne q]
        exact gun a b hab (by omega)
  · rw [(bRs_o e).1]
    exact h
theorem bGd_put {b : Nat} {s : BdS} {t o l i j : Int} (h : bGd s) : bGd (bPutS b s t o l i j) := by
  by_cases hb : b = 0
  · rw [show bPutS b s t o l i j = s from if_pos hb]
    exact h
  by_cases h2 : bSn s t o = -1 ∨ cxI (bW s) (bH s) (bD s) l i j = -1
  · rw [(bPut_2 hb h2).2]
    exact h
  by_cases h3 : bHas s t o
  · rw [(bPut_4 hb h2 h3).2]
    exact h
  by_cases h4 : bnp s = 40 ∨ (bRt s (bSn s t o) = -1 ∧ bnn s = 12)
  · rw [(bPut_1 hb h2 h3 h4).2]
    exact h
  have gB9 : bK s ≤ 1024 := h.1.2.2.2
  have hnn : bnn s ≤ 12 := h.2.1.2
  have hnp : bnp s ≤ 40 := h.2.1.1
  have hg := bGd_rs (sn := bSn s t o) h (fun q => by
    have : bnn s ≠ 12 := fun q2 => h4 (Or.inr ⟨q, q2⟩)
    omega)
  have hto : 0 ≤ t ∧ t < 60 ∧ 0 ≤ o ∧ o < 16 := Classical.byContradiction (fun q => h2 (Or.inl (if_neg q)))
  by_cases h5 : bFree (bRs s (bSn s t o)) (bRn s (bSn s t o)) (cxI (bW s) (bH s) (bD s) l i j).toNat
  · rw [(bPut_k hb h2 h3 h4 h5).2]
    have hcx := cxI_b (W := bW s) (H := bH s) (D := bD s) (l := l) (i := i) (j := j) gB9
    have hcK : (cxI (bW s) (bH s) (bD s) l i j).toNat < bK s := by
      have e8 : (bW s * bH s * bD s : Nat) = bK s := rfl
      have := fun q => h2 (Or.inr q)
      omega
    by_cases e : bRt s (bSn s t o) = -1
    · have e1 := bRs_n e
      refine bGd_pad hg ?_ ?_ h5 ?_ ⟨hto.1, hto.2.1⟩ ⟨hto.2.2.1, hto.2.2.2⟩
      · rw [e1.1, e1.2]
        exact Nat.lt_succ_self _
      · rw [e1.1]; exact hcK
      · rw [e1.1]
        show bnp s < 40
        have : bnp s ≠ 40 := fun q => h4 (Or.inl q)
        omega
    · have e1 := bRs_o e
      refine bGd_pad hg ?_ ?_ h5 ?_ ⟨hto.1, hto.2.1⟩ ⟨hto.2.2.1, hto.2.2.2⟩
      · rw [e1.1, e1.2]
        rcases zlow_sp (fun n => bN s n 0 = bSn s t o) (bnn s) with q | q
        · exact absurd q.1 e
        · obtain ⟨r, r1, r2, -⟩ := q
          have e2 : bRt s (bSn s t o) = r := r2
          omega
      · rw [e1.1]; exact hcK
      · rw [e1.1]
        have : bnp s ≠ 40 := fun q => h4 (Or.inl q)
        omega
  · rw [(bPut_f hb h2 h3 h4 h5).2]
    exact hg
theorem bPutV_or (b : Nat) (s : BdS) (t o l i j : Int) : bPutV b s t o l i j = -3 ∨ bPutV b s t o l i j = -2 ∨ bPutV b s t o l i j = -4 ∨ bPutV b s t o l i j = -1 ∨ bPutV b s t o l i j = bnp s := by
  by_cases hb : b = 0
  · exact Or.inl (if_pos hb)
  by_cases h2 : bSn s t o = -1 ∨ cxI (bW s) (bH s) (bD s) l i j = -1
  · exact Or.inr (Or.inl (bPut_2 hb h2).1)
  by_cases h3 : bHas s t o
  · exact Or.inr (Or.inr (Or.inl (bPut_4 hb h2 h3).1))
  by_cases h4 : bnp s = 40 ∨ (bRt s (bSn s t o) = -1 ∧ bnn s = 12)
  · exact Or.inr (Or.inr (Or.inr (Or.inl (bPut_1 hb h2 h3 h4).1)))
  by_cases h5 : bFree (bRs s (bSn s t o)) (bRn s (bSn s t o)) (cxI (bW s) (bH s) (bD s) l i j).toNat
  · exact Or.inr (Or.inr (Or.inr (Or.inr (bPut_k hb h2 h3 h4 h5).1)))
  · exact Or.inr (Or.inr (Or.inl (bPut_f hb h2 h3 h4 h5).1))
theorem bPutV_lo (b : Nat) (s : BdS) (t o l i j : Int) : -4 ≤ bPutV b s t o l i j := by
  have w := bPutV_or b s t o l i j
  omega
theorem bPutV_hi (b : Nat) (s : BdS) (t o l i j : Int) (h : bGd s) : bPutV b s t o l i j ≤ 40 := by
  have w := bPutV_or b s t o l i j
  have hnp : bnp s ≤ 40 := h.2.1.1
  omega
