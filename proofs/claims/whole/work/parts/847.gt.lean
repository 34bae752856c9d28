/-! gt: SCRIPTS: both readers side by side: choices, closings, functions; any statement -/
theorem st_eta {y : StR} {p : Nat} (a : y.1 = 1) (e : y.2.1 = p) : y = (1, p, y.2.2.1, y.2.2.2.1, y.2.2.2.2) := by
  obtain ⟨f, p', n, cl, fn⟩ := y
  have a : f = 1 := a
  have e : p' = p := e
  rw [a, e]
section
variable {N : Nat} {c : Nat → Int} {r p t k n : Nat} {o : List (Int × Nat)} {R : Nat → OrT} {u cl fn : Nat → Int} {Bk : Int → Int → StR → StR} {top : Bool}
/-- ? .. -/
theorem lk_if (hc : eTx N c) (hB : lkK N c r o Bk) (hBn : ∀ x op en, op ≠ -1 → en ≠ -1 → (x.1 = 1 → x.2.1 ≤ N ∧ x.2.2.1 ≤ 100) → (Bk op en x).1 = 1 → (Bk op en x).2.2.1 ≤ 100) (hp : p < N) (hn : n ≤ 100) (hk : c p = 63) : lkR N c p t o cl R (srQ c Bk (Bk 123 125 (srE (1, p, n, cl, fn) (exEx c 3 (p + 1))))) (rdBw c 5 1 p t k n o R u) (lkS N c r p t top cl fn R u (srQ c Bk (Bk 123 125 (srE (1, p, n, cl, fn) (exEx c 3 (p + 1)))))) := by
  have w := exEx_ok hc (r := 3) (p := p + 1) hp
  unfold exOk at w
  by_cases h1 : (exEx c 3 (p + 1)).1 = 1
  · have b : p < (exEx c 3 (p + 1)).2.1 ∧ (exEx c 3 (p + 1)).2.1 ≤ N := by omega
    have e0 : srE (1, p, n, cl, fn) (exEx c 3 (p + 1)) = (1, (exEx c 3 (p + 1)).2.1, n, cl, fn) := by
      unfold srE
      rw [h1]
    have ex : rdBw c 5 1 p t k n o R u = rdOp c 1 123 t (exEx c 3 (p + 1)).2.1 (t + 1) (k + ((exEx c 3 (p + 1)).2.2.length + 1)) n o (upF R t (5, (p : Int), 0, [], (exEx c 3 (p + 1)).2.2, 0)) u := if_pos h1
    rw [e0, ex]
    have hcnt := hBn (1, (exEx c 3 (p + 1)).2.1, n, cl, fn) 123 125 (by decide) (by decide) (fun _ => ⟨b.2, hn⟩)
    rcases hB.2 (exEx c 3 (p + 1)).2.1 n (t + 1) (k + ((exEx c 3 (p + 1)).2.2.length + 1)) cl fn 1 123 125 t (upF R t (5, (p : Int), 0, [], (exEx c 3 (p + 1)).2.2, 0)) u b.2 hn rfl (by decide) with ⟨a, z, b, d⟩ | ⟨a, r', q, t', k', R', e1, e2, ⟨e3, e3'⟩, e4, e5, e6, e7, e8, e9, e10, e11⟩
    · have es : srQ c Bk (Bk 123 125 (1, (exEx c 3 (p + 1)).2.1, n, cl, fn)) = Bk 123 125 (1, (exEx c 3 (p + 1)).2.1, n, cl, fn) := if_neg (fun q => by omega)
      rw [es]
      exact Or.inl ⟨a, z, b, d⟩
    · have hcn := hcnt a
      obtain ⟨y, hy⟩ : ∃ y, Bk 123 125 (1, (exEx c 3 (p + 1)).2.1, n, cl, fn) = y := ⟨_, rfl⟩
      rw [hy] at a e2 e5 e7 e8 e9 e11 hcn ⊢
      have hRt : R' t = (5, (p : Int), 0, [], (exEx c 3 (p + 1)).2.2, 0) := (e10 t (Nat.zero_le t) (Nat.lt_succ_self t)).trans upF_at
      have hcl : agN y.2.2.2.1 cl 0 p := agN_s e9 (Nat.le_refl 0) (Nat.le_of_lt b.1)
      have zc := rd_cl (N := N) (t := t') (k := k') (n := y.2.2.1) (o := o) (R := R') (u := u) (kd := 1) (of := t) e4
      have hR1 : agN R' R 0 t := agN_t e10 (agN_u (Nat.le_refl t)) (Nat.le_succ t)
      by_cases h2 : c (q + 1) = 123
      · -- an else
        have es : srQ c Bk y = Bk 123 125 (1, q + 1, y.2.2.1, y.2.2.2.1, y.2.2.2.2) := by
          have z2 : y = (1, q + 1, y.2.2.1, y.2.2.2.1, y.2.2.2.2) := st_eta a e2
          have z3 : srQ c Bk y = Bk 123 125 y := if_pos ⟨a, by rw [e2]; exact h2⟩
          rw [z3]
          exact congrArg (Bk 123 125) z2
        rw [es]
        have zo := zc.trans (rdCl_1 h2)
        rcases hB.2 (q + 1) y.2.2.1 (t' + 1) k' y.2.2.2.1 y.2.2.2.2 2 123 125 t' (orG (upF R' t' (17, (R' t).2.1, 0, [], [], 0)) t ((t' + 1 : Nat) : Int)) u e3' hcn rfl (by decide) with ⟨a', z, b', d⟩ | ⟨a', r2, q2, t2, k2, R2, f1, f2, ⟨f3, f3'⟩, f4, f5, f6, f7, f8, f9, f10, f11⟩
        · exact Or.inl ⟨a', z, itR_t e5 (itR_t (itR_1 zo) b'), d⟩
        · obtain ⟨y2, hy2⟩ : ∃ y2, Bk 123 125 (1, q + 1, y.2.2.1, y.2.2.2.1, y.2.2.2.2) = y2 := ⟨_, rfl⟩
          rw [hy2] at a' f2 f5 f7 f8 f9 f11 ⊢
          have z := (rd_cl (N := N) (t := t2) (k := k2) (n := y2.2.2.1) (o := o) (R := R2) (u := u) (kd := 2) (of := t') f4).trans rdCl_2
          have hRt2 : R2 t = (5, (p : Int), 0, [], (exEx c 3 (p + 1)).2.2, ((t' + 1 : Nat) : Int)) := by
            rw [f10 t (Nat.zero_le t) (by omega)]
            unfold orG
            rw [upF_at, upF_i (by omega), hRt]
          have hRt3 : (R2 t').1 = 17 := by
            rw [f10 t' (Nat.zero_le t') (by omega)]
            unfold orG
            rw [upF_i (by omega), upF_at]
          have hR2 : agN R2 R 0 t := agN_t f10 (agN_ut (agN_ut hR1 (by omega)) (Nat.le_refl t)) (by omega)
          have hR : agN (orG R2 t' ((t2 : Nat) : Int)) R 0 t := agN_ut hR2 (by omega)
          have hcl2 : agN y2.2.2.2.1 cl 0 p := agN_t f9 hcl (by omega)
          refine Or.inr ⟨a', ⟨by omega, by omega⟩, t2, k2, _, u, itR_t e5 (itR_t (itR_1 zo) (itR_t f5 (itR_1 (by rw [f2]; exact z)))), by omega, hcl2, hR, ⟨by omega, by omega⟩, fun _ => ⟨f7.trans e7, rfl⟩, fun h => by rw [f7, e7]; exact fnP_m h (by omega) (by omega) hcl2 hR, fun cl' M a1 a2 to j b1 b2 hG => ?_⟩
          rw [f2] at a1 b1 hG
          have hM : ∀ i, t ≤ i → i < t2 → ¬ i = t' → M.1 i = R2 i := fun i i1 i2 i3 => (a2 i i1 i2).trans (upF_i i3)
          have hcq : agN cl' y.2.2.2.1 p (q + 1) := fun x x1 x2 => (a1 x x1 (by omega)).trans (f9 x (Nat.zero_le x) x2)
          refine Or.inr ⟨r', (exEx c 3 (p + 1)).2.1, q, t', Or.inl hk, e1, (hcq _ (by omega) (by omega)).trans e8, ⟨by omega, e3, by omega⟩, e11 cl' M (agN_s hcq (by omega) (by omega)) (fun i i1 i2 => ?_) (by have := (wfG_b hG).2.1; omega), by omega, Or.inr (Or.inl ⟨q2, t2, hk, ⟨h1, rfl⟩, h2, ?_, ⟨?_, ?_⟩, (a1 _ (by omega) (by omega)).trans f8, ⟨f3, by omega⟩, ?_, b2, hG⟩)⟩
          · rw [hM i (by omega) (by omega) (by omega), f10 i (Nat.zero_le i) (by omega)]
            unfold orG
            rw [upF_i (by omega), upF_i (by omega)]
          · exact (hM t (Nat.le_refl t) (by omega) (by omega)).trans hRt2
          · rw [a2 t' (by omega) (by omega)]
            unfold orG
            rw [upF_at]
            exact hRt3
          · rw [a2 t' (by omega) (by omega)]
            unfold orG
            rw [upF_at]
          · have er2 : r2 = r' := by omega
            rw [← er2]
            exact f11 cl' M (agN_s a1 (by omega) (by omega)) (fun i i1 i2 => hM i (by omega) (by omega) (by omega)) (by have := (wfG_b hG).2.1; omega)
      · have es : srQ c Bk y = y := if_neg (fun z => h2 (by rw [← e2]; exact z.2))
        rw [es]
        have z := zc.trans (rdCl_1n h2)
        have hR : agN (orG R' t ((t' : Nat) : Int)) R 0 t := agN_ut hR1 (Nat.le_refl t)
        refine Or.inr ⟨a, ⟨by omega, by omega⟩, t', k', _, u, itR_t e5 (itR_1 (by rw [e2]; exact z)), by omega, hcl, hR, ⟨by omega, by omega⟩, fun _ => ⟨e7, rfl⟩, fun h => by rw [e7]; exact fnP_m h (by omega) (by omega) hcl hR, fun cl' M a1 a2 to j b1 b2 hG => ?_⟩
        rw [e2] at a1 b1 hG
        refine Or.inr ⟨r', (exEx c 3 (p + 1)).2.1, q, t', Or.inl hk, e1, (a1 _ (by omega) (by omega)).trans e8, ⟨by omega, e3, by omega⟩, e11 cl' M (agN_s a1 (by omega) (by omega)) (fun i i1 i2 => (a2 i (by omega) (by omega)).trans (upF_i (by omega))) (by have := (wfG_b hG).2.1; omega), b2, Or.inl ⟨hk, ⟨h1, rfl⟩, h2, ?_, hG⟩⟩
        rw [a2 t (Nat.le_refl t) (by omega)]
        unfold orG
        rw [upF_at, hRt]
  · have e0 : ¬ (srE (1, p, n, cl, fn) (exEx c 3 (p + 1))).1 = 1 := h1
    rw [hB.1 _ _ _ e0]
    have es : srQ c Bk (srE (1, p, n, cl, fn) (exEx c 3 (p + 1))) = srE (1, p, n, cl, fn) (exEx c 3 (p + 1)) := if_neg (fun q => e0 q.1)
    rw [es]
    exact Or.inl ⟨by show (exEx c 3 (p + 1)).1 = 0; omega, (0, (exEx c 3 (p + 1)).2.1, t, k, n, o, R, u), ⟨0, if_neg h1⟩, rfl, rfl⟩
/-- ~ .. -/
theorem lk_tr (hB : lkK N c r o Bk) (hBn : ∀ x op en, op ≠ -1 → en ≠ -1 → (x.1 = 1 → x.2.1 ≤ N ∧ x.2.2.1 ≤ 100) → (Bk op en x).1 = 1 → (Bk op en x).2.2.1 ≤ 100) (hp : p < N) (hn : n ≤ 100) (hk : c p = 126) : lkR N c p t o cl R (Bk 123 125 (Bk 123 125 (1, p + 1, n, cl, fn))) (rdOp c 5 123 t (p + 1) (t + 1) k n o (upF R t (9, (p : Int), 0, [], [], 0)) u) (lkS N c r p t top cl fn R u (Bk 123 125 (Bk 123 125 (1, p + 1, n, cl, fn)))) := by
  have hcnt := hBn (1, p + 1, n, cl, fn) 123 125 (by decide) (by decide) (fun _ => ⟨hp, hn⟩)
  rcases hB.2 (p + 1) n (t + 1) k cl fn 5 123 125 t (upF R t (9, (p : Int), 0, [], [], 0)) u hp hn rfl (by decide) with ⟨a, z, b, d⟩ | ⟨a, r', q, t', k', R', e1, e2, ⟨e3, e3'⟩, e4, e5, e6, e7, e8, e9, e10, e11⟩
  · rw [hB.1 123 125 _ (show ¬ (Bk 123 125 (1, p + 1, n, cl, fn)).1 = 1 by omega)]
    exact Or.inl ⟨a, z, b, d⟩
  · have hcn := hcnt a
    obtain ⟨y, hy⟩ : ∃ y, Bk 123 125 (1, p + 1, n, cl, fn) = y := ⟨_, rfl⟩
    rw [hy] at a e2 e5 e7 e8 e9 e11 hcn ⊢
    have hRt : R' t = (9, (p : Int), 0, [], [], 0) := (e10 t (Nat.zero_le t) (Nat.lt_succ_self t)).trans upF_at
    have hcl : agN y.2.2.2.1 cl 0 p := agN_s e9 (Nat.le_refl 0) (Nat.le_succ p)
    have zo := (rd_cl (N := N) (t := t') (k := k') (n := y.2.2.1) (o := o) (R := R') (u := u) (kd := 5) (of := t) e4).trans rdCl_5
    have hR1 : agN R' R 0 t := agN_t e10 (agN_u (Nat.le_refl t)) (Nat.le_succ t)
    have es : y = (1, q + 1, y.2.2.1, y.2.2.2.1, y.2.2.2.2) := st_eta a e2
    rw [show Bk 123 125 y = Bk 123 125 (1, q + 1, y.2.2.1, y.2.2.2.1, y.2.2.2.2) from congrArg (Bk 123 125) es]
    rcases hB.2 (q + 1) y.2.2.1 (t' + 1) k' y.2.2.2.1 y.2.2.2.2 6 123 125 t (upF (orG R' t ((t' : Nat) : Int)) t' (10, (R' t).2.1, 0, [], [], 0)) u e3' hcn rfl (by decide) with ⟨a', z, b', d⟩ | ⟨a', r2, q2, t2, k2, R2, f1, f2, ⟨f3, f3'⟩, f4, f5, f6, f7, f8, f9, f10, f11⟩
    · exact Or.inl ⟨a', z, itR_t e5 (itR_t (itR_1 zo) b'), d⟩
    · obtain ⟨y2, hy2⟩ : ∃ y2, Bk 123 125 (1, q + 1, y.2.2.1, y.2.2.2.1, y.2.2.2.2) = y2 := ⟨_, rfl⟩
      rw [hy2] at a' f2 f5 f7 f8 f9 f11 ⊢
      have z := (rd_cl (N := N) (t := t2) (k := k2) (n := y2.2.2.1) (o := o) (R := R2) (u := u) (kd := 6) (of := t) f4).trans rdCl_6
      have hRt2 : R2 t = (9, (p : Int), 0, [], [], ((t' : Nat) : Int)) := by
        rw [f10 t (Nat.zero_le t) (by omega), upF_i (by omega)]
        unfold orG
        rw [upF_at, hRt]
      have hRt3 : (R2 t').1 = 10 := by
        rw [f10 t' (Nat.zero_le t') (by omega), upF_at]
      have hR2 : agN R2 R 0 t := agN_t f10 (agN_ut (agN_ut hR1 (Nat.le_refl t)) (by omega)) (by omega)
      have hR : agN (upF R2 t2 (11, (R2 t).2.1, 0, [], [], 0)) R 0 t := agN_ut hR2 (by omega)
      have hcl2 : agN y2.2.2.2.1 cl 0 p := agN_t f9 hcl (by omega)
      refine Or.inr ⟨a', ⟨by omega, by omega⟩, t2 + 1, k2, _, u, itR_t e5 (itR_t (itR_1 zo) (itR_t f5 (itR_1 (by rw [f2]; exact z)))), by omega, hcl2, hR, ⟨by omega, by omega⟩, fun _ => ⟨f7.trans e7, rfl⟩, fun h => by rw [f7, e7]; exact fnP_m h (by omega) (by omega) hcl2 hR, fun cl' M a1 a2 to j b1 b2 hG => ?_⟩
      rw [f2] at a1 b1 hG
      have hM : ∀ i, t ≤ i → i < t2 → M.1 i = R2 i := fun i i1 i2 => (a2 i i1 (by omega)).trans (upF_i (by omega))
      have hcq : agN cl' y.2.2.2.1 p (q + 1) := fun x x1 x2 => (a1 x x1 (by omega)).trans (f9 x (Nat.zero_le x) x2)
      refine Or.inr ⟨r', p + 1, q, t', Or.inr (Or.inr (Or.inr (Or.inl hk))), e1, (hcq _ (by omega) (by omega)).trans e8, ⟨by omega, e3, by omega⟩, e11 cl' M (agN_s hcq (by omega) (by omega)) (fun i i1 i2 => ?_) (by have := (wfG_b hG).2.1; omega), by omega, Or.inr (Or.inr (Or.inr (Or.inr (Or.inl ⟨q2, t2, hk, rfl, ⟨?_, ?_⟩, ?_, (a1 _ (by omega) (by omega)).trans f8, ⟨f3, by omega⟩, ?_, ?_, by omega, hG⟩))))⟩
      · rw [hM i (by omega) (by omega), f10 i (Nat.zero_le i) (by omega), upF_i (by omega)]
        unfold orG
        rw [upF_i (by omega)]
      · rw [hM t (Nat.le_refl t) (by omega), hRt2]
      · rw [hM t (Nat.le_refl t) (by omega), hRt2]
      · rw [hM t' (by omega) (by omega)]; exact hRt3
      · have er2 : r2 = r' := by omega
        rw [← er2]
        exact f11 cl' M (agN_s a1 (by omega) (by omega)) (fun i i1 i2 => hM i (by omega) (by omega)) (by have := (wfG_b hG).2.1; omega)
      · rw [a2 t2 (by omega) (by omega), upF_at]
/-- : .. -/
theorem lk_fn (hc : eTx N c) (hB : lkK N c r o Bk) (ht : top = true → r = 2 ∧ o.length = 0) (hf0 : top = false → ¬ o.length = 0) (hF : top = true → fnP N c p t cl fn R u) (hp : p < N) (hn : n ≤ 100) (hk : c p = 58) : lkR N c p t o cl R (srFn c Bk top p (1, p, n, cl, fn)) (rdFn c p t k n o R u) (lkS N c r p t top cl fn R u (srFn c Bk top p (1, p, n, cl, fn))) := by
  unfold srFn rdFn
  by_cases h1 : 65 ≤ c (p + 1) ∧ c (p + 1) ≤ 90
  · rw [if_pos h1, if_pos h1]
    have hl := eTx_lt hc (p := p + 1) (by omega)
    have hf26 : (c (p + 1) - 65).toNat < 26 := by omega
    by_cases h2 : top = true ∧ fn (c (p + 1) - 65).toNat = -1
    · have h3 : o.length = 0 ∧ u (c (p + 1) - 65).toNat = -1 := ⟨(ht h2.1).2, (fnP_e (hF h2.1) hf26).mp h2.2⟩
      have e0 : top = true ∧ ((1, p, n, cl, fn) : StR).2.2.2.2 (c (p + 1) - 65).toNat = -1 := h2
      rw [if_pos e0, if_pos h3]
      rcases hB.2 (p + 2) n (t + 1) k cl (upF fn (c (p + 1) - 65).toNat ((p + 2 : Nat) : Int)) 7 123 125 t (upF R t (17, (p : Int), 0, [], [], 0)) (upF u (c (p + 1) - 65).toNat ((t + 1 : Nat) : Int)) hl hn rfl (by decide) with ⟨a, z, b, d⟩ | ⟨a, r', q, t', k', R', e1, e2, ⟨e3, e3'⟩, e4, e5, e6, e7, e8, e9, e10, e11⟩
      · exact Or.inl ⟨a, z, b, d⟩
      · obtain ⟨y, hy⟩ : ∃ y, Bk 123 125 (1, p + 2, n, cl, upF fn (c (p + 1) - 65).toNat ((p + 2 : Nat) : Int)) = y := ⟨_, rfl⟩
        show lkR N c p t o cl R (Bk 123 125 (1, p + 2, n, cl, upF fn (c (p + 1) - 65).toNat ((p + 2 : Nat) : Int))) _ (lkS N c r p t top cl fn R u (Bk 123 125 (1, p + 2, n, cl, upF fn (c (p + 1) - 65).toNat ((p + 2 : Nat) : Int))))
        rw [hy] at a e2 e5 e7 e8 e9 e11 ⊢
        have z := (rd_cl (N := N) (t := t') (k := k') (n := y.2.2.1) (o := o) (R := R') (u := upF u (c (p + 1) - 65).toNat ((t + 1 : Nat) : Int)) (kd := 7) (of := t) e4).trans rdCl_7
        have hRt : R' t = (17, (p : Int), 0, [], [], 0) := (e10 t (Nat.zero_le t) (Nat.lt_succ_self t)).trans upF_at
        have hR1 : agN R' R 0 t := agN_t e10 (agN_u (Nat.le_refl t)) (Nat.le_succ t)
        have hR : agN (orG (upF R' t' (19, (R' t).2.1, 0, [], [], 0)) t ((t' + 1 : Nat) : Int)) R 0 t := agN_ut (agN_ut hR1 (by omega)) (Nat.le_refl t)
        have hcl : agN y.2.2.2.1 cl 0 p := agN_s e9 (Nat.le_refl 0) (by omega)
        have hr1 : r' = 1 := by have := (ht h2.1).1; omega
        have hRe : ∀ i, t < i → i < t' → orG (upF R' t' (19, (R' t).2.1, 0, [], [], 0)) t ((t' + 1 : Nat) : Int) i = R' i := fun i i1 i2 => (upF_i (by omega)).trans (upF_i (by omega))
        have hR9 : (orG (upF R' t' (19, (R' t).2.1, 0, [], [], 0)) t ((t' + 1 : Nat) : Int) t').1 = 19 := by
          unfold orG
          rw [upF_i (by omega), upF_at]
        refine Or.inr ⟨a, ⟨by omega, by omega⟩, t' + 1, k', _, _, itR_t e5 (itR_1 (by rw [e2]; exact z)), by omega, hcl, hR, ⟨by omega, by omega⟩, fun h => by rw [h2.1] at h; exact absurd h (by decide), fun h => ?_, fun cl' M a1 a2 to j b1 b2 hG => ?_⟩
        · rw [e7]
          intro f hf
          by_cases hff : f = (c (p + 1) - 65).toNat
          · refine Or.inr ⟨p + 2, q, t + 1, t', ?_, ?_, ⟨e3, by omega⟩, by omega, fun cl' M a1 a2 a3 => ⟨(a1 _ (Nat.zero_le _) (by omega)).trans e8, ?_, ?_⟩⟩
            · rw [hff]; exact upF_at
            · rw [hff]; exact upF_at
            · have z9 := e11 cl' M (agN_s a1 (by omega) (by omega)) (fun i i1 i2 => (a2 i (Nat.zero_le i) (by omega)).trans (hRe i (by omega) i2)) (by omega)
              rw [hr1] at z9
              exact z9
            · rw [a2 t' (Nat.zero_le t') (by omega)]; exact hR9
          · rcases fnP_m h (by omega : p ≤ y.2.1) (by omega : t ≤ t' + 1) hcl hR f hf with g | ⟨q0, t0, k0, j0, g1, g2, g3⟩
            · exact Or.inl ⟨(upF_i hff).trans g.1, (upF_i hff).trans g.2⟩
            · exact Or.inr ⟨q0, t0, k0, j0, (upF_i hff).trans g1, (upF_i hff).trans g2, g3⟩
        · rw [e2] at a1 b1 hG
          refine Or.inr ⟨r', p + 2, q, t', Or.inr (Or.inr (Or.inr (Or.inr hk))), e1, (a1 _ (by omega) (by omega)).trans e8, ⟨by omega, e3, by omega⟩, e11 cl' M (agN_s a1 (by omega) (by omega)) (fun i i1 i2 => (a2 i (by omega) (by omega)).trans (hRe i (by omega) i2)) (by have := (wfG_b hG).2.1; omega), by omega, Or.inr (Or.inr (Or.inr (Or.inr (Or.inr ⟨hk, rfl, ⟨?_, ?_⟩, by omega, hG⟩))))⟩
          · rw [a2 t (Nat.le_refl t) (by omega)]
            unfold orG
            rw [upF_at, upF_i (by omega), hRt]
          · rw [a2 t (Nat.le_refl t) (by omega)]
            unfold orG
            rw [upF_at]
    · have h3 : ¬ (o.length = 0 ∧ u (c (p + 1) - 65).toNat = -1) := fun z => by
        by_cases hb : top = true
        · exact h2 ⟨hb, (fnP_e (hF hb) hf26).mpr z.2⟩
        · exact hf0 (by cases top; rfl; exact absurd rfl hb) z.1
      rw [if_neg (show ¬ (top = true ∧ ((1, p, n, cl, fn) : StR).2.2.2.2 (c (p + 1) - 65).toNat = -1) from h2), if_neg h3]
      exact Or.inl ⟨rfl, _, itR_r, rfl, rfl⟩
  · rw [if_neg h1, if_neg h1]
    exact Or.inl ⟨rfl, _, itR_r, rfl, rfl⟩
/-- a statement, whichever -/
theorem lk_st (hc : eTx N c) (hB : lkK N c r o Bk) (hBn : ∀ x op en, op ≠ -1 → en ≠ -1 → (x.1 = 1 → x.2.1 ≤ N ∧ x.2.2.1 ≤ 100) → (Bk op en x).1 = 1 → (Bk op en x).2.2.1 ≤ 100) (ht : top = true → r = 2 ∧ o.length = 0) (hf0 : top = false → ¬ o.length = 0) (hF : top = true → fnP N c p t cl fn R u) (hp : p < N) (hn : n ≤ 100) : lkR N c p t o cl R (srT c Bk top (1, p, n, cl, fn)) (rdTs c p t k n o R u) (lkS N c r p t top cl fn R u (srT c Bk top (1, p, n, cl, fn))) := by
  by_cases h0 : n = 100
  · have e1 : srT c Bk top (1, p, n, cl, fn) = (0, p, n, cl, fn) := if_pos (show 100 ≤ n by omega)
    rw [e1, rdTs_0 h0]
    exact Or.inl ⟨rfl, _, itR_r, rfl, rfl⟩
  · have e1 : srT c Bk top (1, p, n, cl, fn) = srS c Bk top p (1, p, n + 1, cl, fn) := if_neg (show ¬ 100 ≤ n by omega)
    rw [e1]
    by_cases h1 : c p = 91
    · have e2 : srS c Bk top p (1, p, n + 1, cl, fn) = Bk 91 93 (1, p, n + 1, cl, fn) := if_pos h1
      rw [e2, rdTs_b h0 h1]
      exact lk_ac hB hp (by omega) h1
    · by_cases h2 : c p = 58
      · have e2 : srS c Bk top p (1, p, n + 1, cl, fn) = srFn c Bk top p (1, p, n + 1, cl, fn) := (if_neg h1).trans (if_pos h2)
        rw [e2, rdTs_f h0 h2]
        exact lk_fn hc hB ht hf0 hF hp (by omega) h2
      · by_cases h3 : c p = 126
        · have e2 : srS c Bk top p (1, p, n + 1, cl, fn) = Bk 123 125 (Bk 123 125 (1, p + 1, n + 1, cl, fn)) := (if_neg h1).trans ((if_neg h2).trans (if_pos h3))
          rw [e2, rdTs_t h0 h3]
          exact lk_tr hB hBn hp (by omega) h3
        · by_cases h4 : c p = 42
          · have e2 : srS c Bk top p (1, p, n + 1, cl, fn) = Bk 123 125 (srE (1, p, n + 1, cl, fn) (exEx c 3 (p + 1))) := (if_neg h1).trans ((if_neg h2).trans ((if_neg h3).trans (if_pos h4)))
            rw [e2, rdTs_l h0 h4]
            exact lk_lp hc hB hp (by omega) h4
          · by_cases h5 : c p = 63
            · have e2 : srS c Bk top p (1, p, n + 1, cl, fn) = srQ c Bk (Bk 123 125 (srE (1, p, n + 1, cl, fn) (exEx c 3 (p + 1)))) := (if_neg h1).trans ((if_neg h2).trans ((if_neg h3).trans ((if_neg h4).trans (if_pos h5))))
              rw [e2, rdTs_q h0 h5]
              exact lk_if hc hB hBn hp (by omega) h5
            · rw [srS_e ⟨h5, h4, h3, h1, h2⟩, rdTs_s h0 (by omega)]
              exact lk_si hc hp ⟨h5, h4, h3, h1, h2⟩
end
