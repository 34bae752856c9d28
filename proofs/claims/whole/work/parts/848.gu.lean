/-! gu: SCRIPTS: both readers side by side: rows of statements, blocks, a text -/
def lkL (N : Nat) (c : Nat → Int) (r p t : Nat) (top : Bool) (en : Int) (cl fn : Nat → Int) (R : Nat → OrT) (u : Nat → Int) (y : StR) (t' : Nat) (R' : Nat → OrT) (u' : Nat → Int) : Prop := c y.2.1 = en ∧ (top = false → y.2.2.2.2 = fn ∧ u' = u) ∧ (fnP N c p t cl fn R u → fnP N c y.2.1 t' y.2.2.2.1 y.2.2.2.2 R' u') ∧ ∀ (cl' : Nat → Int) (M : WkM), agN cl' y.2.2.2.1 p y.2.1 → agN M.1 R' t t' → t' ≤ M.2.2.2 → wfG N c cl' M r p t y.2.1 t'
theorem hBn_of {N : Nat} {Bk : Int → Int → StR → StR} (hV : bkV N Bk) (hB : ∀ op en x, ¬ x.1 = 1 → Bk op en x = x) : ∀ x op en, op ≠ -1 → en ≠ -1 → (x.1 = 1 → x.2.1 ≤ N ∧ x.2.2.1 ≤ 100) → (Bk op en x).1 = 1 → (Bk op en x).2.2.1 ≤ 100 := fun x op en h1 h2 h3 h4 => by
  by_cases h : x.1 = 1
  · rcases hV op en 0 x h1 h2 (Or.inl ⟨h, Nat.zero_le _, h3 h⟩) with w | w
    · exact w.2.2.2
    · omega
  · rw [hB _ _ _ h] at h4
    exact absurd h4 h
theorem lk_ls {N : Nat} {c : Nat → Int} {r : Nat} {o : List (Int × Nat)} {Bk : Int → Int → StR → StR} {top : Bool} {en : Int} (hc : eTx N c) (hV : bkV N Bk) (hB : lkK N c r o Bk) (hr : r ≤ 2) (ht : top = true → r = 2 ∧ o.length = 0) (hf0 : top = false → ¬ o.length = 0) (he : (o = [] ∧ en = -1) ∨ ∃ kd of o', o = (kd, of) :: o' ∧ en = (if kd = 4 then 93 else 125)) : ∀ (m p n t k : Nat) (cl fn : Nat → Int) (R : Nat → OrT) (u : Nat → Int), p ≤ N → n ≤ 100 → N < m + p → (top = true → fnP N c p t cl fn R u) → lkR N c p t o cl R (srL c (srT c Bk top) en m (1, p, n, cl, fn)) (1, p, t, k, n, o, R, u) (lkL N c r p t top en cl fn R u (srL c (srT c Bk top) en m (1, p, n, cl, fn)))
  | 0, p, n, t, k, cl, fn, R, u, hp, hn, hm, hF => by omega
  | m + 1, p, n, t, k, cl, fn, R, u, hp, hn, hm, hF => by
    have hen : en ≠ 10 := by
      rcases he with h | ⟨kd, of, o', h1, h2⟩
      · rw [h.2]; decide
      · rw [h2]
        by_cases q : kd = 4
        · rw [if_pos q]; decide
        · rw [if_neg q]; decide
    by_cases h1 : c p = en
    · rw [srL_0 (fun q => q.2 h1)]
      exact Or.inr ⟨rfl, ⟨Nat.le_refl _, hp⟩, t, k, R, u, itR_r, Nat.le_refl _, agN_r, agN_r, h1, fun _ => ⟨rfl, rfl⟩, id, fun cl' M _ _ h => wfG_0 hp h hr⟩
    · by_cases h2 : c p = 10
      · have hl := eTx_lt hc (p := p) (by omega)
        have e1 : srL c (srT c Bk top) en (m + 1) (1, p, n, cl, fn) = srL c (srT c Bk top) en m (1, p + 1, n, cl, fn) := srL_a ⟨rfl, h1⟩ h2
        have e2 : rdS c N (1, p, t, k, n, o, R, u) = (1, p + 1, t, k, n, o, R, u) := (if_pos rfl).trans (if_pos h2)
        rw [e1]
        refine lkR_x (itR_1 e2) ?_
        rcases lk_ls hc hV hB hr ht hf0 he m (p + 1) n t k cl fn R u hl hn (by omega) (fun q => fnP_m (hF q) (Nat.le_succ p) (Nat.le_refl t) agN_r agN_r) with h | ⟨a, b, t', k', R', u', d1, d2, d3, d4, g1, g2, g3, g4⟩
        · exact Or.inl h
        · exact Or.inr ⟨a, ⟨by omega, b.2⟩, t', k', R', u', d1, d2, agN_s d3 (Nat.le_refl 0) (Nat.le_succ p), d4, g1, g2, fun q => g3 (fnP_m q (Nat.le_succ p) (Nat.le_refl t) agN_r agN_r), fun cl' M a1 a2 a3 => wfG_n h2 (g4 cl' M (agN_s a1 (Nat.le_succ p) (Nat.le_refl _)) a2 a3)⟩
      · have e1 : srL c (srT c Bk top) en (m + 1) (1, p, n, cl, fn) = srL c (srT c Bk top) en m (srT c Bk top (1, p, n, cl, fn)) := srL_b ⟨rfl, h1⟩ h2
        rw [e1]
        by_cases hl : p < N
        · have e2 : rdS c N (1, p, t, k, n, o, R, u) = rdTs c p t k n o R u := (if_pos rfl).trans (rdX_t h2 (fun y o' q => by
            rcases he with h | ⟨kd, of, o2, z1, z2⟩
            · rw [h.1] at q; exact absurd q (by simp)
            · rw [z1] at q
              injection q with q1 _
              rw [← q1, ← z2]
              exact h1) hl)
          have hst := lk_st (top := top) (cl := cl) (fn := fn) (R := R) (u := u) (t := t) (k := k) hc hB (hBn_of hV hB.1) ht hf0 hF hl hn
          have hcv := srT_V (top := top) hc hV (x := (1, p, n, cl, fn)) (p := p) rfl (Or.inl ⟨rfl, Nat.le_refl p, hp, hn⟩)
          obtain ⟨y, hy⟩ : ∃ y, srT c Bk top (1, p, n, cl, fn) = y := ⟨_, rfl⟩
          rw [hy] at hst hcv ⊢
          rcases hst with ⟨a, z, b, d, e⟩ | ⟨a, b, t1, k1, R1, u1, d1, d2, d3, d4, ⟨f1, f2⟩, f3, f4, f5⟩
          · have e3 : srL c (srT c Bk top) en m y = y := srL_0 (fun q => by omega)
            rw [e3]
            exact Or.inl ⟨a, z, itR_t (itR_1 e2) b, d, e⟩
          · have ey := st_eta a rfl
            have hn1 : y.2.2.1 ≤ 100 := by
              rcases hcv with w | w
              · exact w.2.2.2
              · omega
            have ih := lk_ls hc hV hB hr ht hf0 he m y.2.1 y.2.2.1 t1 k1 y.2.2.2.1 y.2.2.2.2 R1 u1 b.2 hn1 (by omega) (fun q => f4 (hF q))
            rw [← ey] at ih
            rcases ih with ⟨g, z, g1, g2, g3⟩ | ⟨g, g1, t', k', R', u', g2, g3, g4, g5, i1, i2, i3, i4⟩
            · exact Or.inl ⟨g, z, itR_t (itR_1 e2) (itR_t d1 g1), g2, g3⟩
            · refine Or.inr ⟨g, ⟨by omega, g1.2⟩, t', k', R', u', itR_t (itR_1 e2) (itR_t d1 g2), by omega, agN_t g4 d3 (by omega), agN_t g5 d4 (by omega), i1, fun q => ⟨(i2 q).1.trans (f3 q).1, (i2 q).2.trans (f3 q).2⟩, fun q => i3 (f4 q), fun cl' M a1 a2 a3 => ?_⟩
              have hG := i4 cl' M (agN_s a1 (by omega) (Nat.le_refl _)) (agN_s a2 (by omega) (Nat.le_refl _)) a3
              exact wfG_s h2 f1 (by omega) hG (f5 cl' M (fun x x1 x2 => (a1 x x1 (by omega)).trans (g4 x (Nat.zero_le x) x2)) (fun i j1 j2 => (a2 i j1 (by omega)).trans (g5 i (Nat.zero_le i) j2)) _ _ g1.1 g3 hG)
        · have hcp : c p = -1 := hc.2.1 p (by omega)
          rcases he with h | ⟨kd, of, o2, z1, z2⟩
          · rw [h.2] at h1; exact absurd hcp h1
          · have e2 : rdS c N (1, p, t, k, n, o, R, u) = (0, p, t, k, n, o, R, u) := by
              rw [z1]
              exact (if_pos rfl).trans (rdX_w (y := (kd, of)) h2 (by rw [← z2]; exact h1) hl)
            have e4 : srT c Bk top (1, p, n, cl, fn) = (0, (srT c Bk top (1, p, n, cl, fn)).2) ∧ (srT c Bk top (1, p, n, cl, fn)).2.1 = p := by
              by_cases q : 100 ≤ n
              · have w : srT c Bk top (1, p, n, cl, fn) = (0, p, n, cl, fn) := if_pos q
                rw [w]; exact ⟨rfl, rfl⟩
              · have w : srT c Bk top (1, p, n, cl, fn) = srE (1, p, n + 1, cl, fn) (stS c p) := (if_neg q).trans (srS_e (x := (1, p, n + 1, cl, fn)) ⟨by show c p ≠ 63; omega, by show c p ≠ 42; omega, by show c p ≠ 126; omega, by show c p ≠ 91; omega, by show c p ≠ 58; omega⟩)
                have w2 : stS c p = exF p := stS_f (by omega) (by omega) (by omega) (by omega) (by omega)
                rw [w, w2]; exact ⟨rfl, rfl⟩
            have e3 : srL c (srT c Bk top) en m (srT c Bk top (1, p, n, cl, fn)) = srT c Bk top (1, p, n, cl, fn) := srL_0 (fun q => by rw [e4.1] at q; exact absurd (show (0 : Nat) = 1 from q.1) (by decide))
            rw [e3]
            exact Or.inl ⟨by rw [e4.1], _, itR_1 e2, rfl, e4.2.symm⟩
/-- rows of a level, as its blocks hold them -/
def lkQ (N : Nat) (c : Nat → Int) (r : Nat) (o : List (Int × Nat)) (en : Int) (Ls : Int → StR → StR) : Prop := ∀ (p n t k : Nat) (cl fn : Nat → Int) (R : Nat → OrT) (u : Nat → Int), p ≤ N → n ≤ 100 → lkR N c p t o cl R (Ls en (1, p, n, cl, fn)) (1, p, t, k, n, o, R, u) (lkL N c r p t false en cl fn R u (Ls en (1, p, n, cl, fn)))
theorem lk_bk {N : Nat} {c : Nat → Int} {r : Nat} {o : List (Int × Nat)} {Ls : Int → StR → StR} (hc : eTx N c) (ho : ¬ o.length = 2) (hL : ∀ kd of, lkQ N c r ((kd, of) :: o) (if kd = 4 then 93 else 125) Ls) : lkK N c (r + 1) o (srB c Ls) := by
  refine ⟨fun op en x h => if_neg h, fun p n t k cl fn kd op en of R u hp hn he hop => ?_⟩
  by_cases h1 : c p = op
  · have hl := eTx_lt hc (p := p) (by omega)
    have e1 : srB c Ls op en (1, p, n, cl, fn) = srD c en p (Ls en (1, p + 1, n, cl, fn)) := (if_pos rfl).trans (if_pos h1)
    have e2 : rdOp c kd op of p t k n o R u = (1, p + 1, t, k, n, (kd, of) :: o, R, u) := rdOp_y ⟨h1, ho⟩
    rw [e1, e2]
    have w := hL kd of (p + 1) n t k cl fn R u hl hn
    rw [← he] at w
    obtain ⟨y, hy⟩ : ∃ y, Ls en (1, p + 1, n, cl, fn) = y := ⟨_, rfl⟩
    rw [hy] at w ⊢
    rcases w with ⟨a, z, b, d⟩ | ⟨a, b, t', k', R', u', d1, d2, d3, d4, g1, g2, g3, g4⟩
    · have e3 : srD c en p y = y := if_neg (by omega)
      rw [e3]
      exact Or.inl ⟨a, z, b, d⟩
    · have e3 : srD c en p y = (1, y.2.1 + 1, y.2.2.1, upF y.2.2.2.1 p (y.2.1 : Int), y.2.2.2.2) := (if_pos a).trans (if_pos g1)
      rw [e3]
      have hen : en ≠ -1 := by
        rw [he]
        by_cases q : kd = 4
        · rw [if_pos q]; decide
        · rw [if_neg q]; decide
      have hq := eTx_lt hc (p := y.2.1) (by omega)
      have g2 := g2 rfl
      refine Or.inr ⟨rfl, r, y.2.1, t', k', R', rfl, rfl, ⟨by omega, hq⟩, g1, ?_, d2, g2.1, upF_at, agN_ut (agN_s d3 (Nat.le_refl 0) (Nat.le_succ p)) (Nat.le_refl p), d4, fun cl' M a1 a2 a3 => g4 cl' M (fun x x1 x2 => (a1 x x1 x2).trans (upF_i (by omega))) a2 a3⟩
      rw [g2.2] at d1
      exact d1
  · have e1 : srB c Ls op en (1, p, n, cl, fn) = srF (1, p, n, cl, fn) p := (if_pos rfl).trans (if_neg h1)
    rw [e1, rdOp_n (fun q => h1 q.1)]
    exact Or.inl ⟨rfl, _, itR_r, rfl, rfl⟩
theorem lk_b2 {N : Nat} {c : Nat → Int} {o : List (Int × Nat)} (ho : o.length = 2) : lkK N c 0 o (bk2 c) := by
  refine ⟨fun op en x h => if_neg h, fun p n t k cl fn kd op en of R u hp hn he hop => ?_⟩
  have e1 : bk2 c op en (1, p, n, cl, fn) = srF (1, p, n, cl, fn) p := show srB0 op en (1, p, n, cl, fn) = _ from if_pos rfl
  rw [e1, rdOp_n (fun q => q.2 ho)]
  exact Or.inl ⟨rfl, _, itR_r, rfl, rfl⟩
theorem lk_b1 {N : Nat} {c : Nat → Int} {o : List (Int × Nat)} (hc : eTx N c) (ho : o.length = 1) : lkK N c 1 o (bk1 c) := lk_bk hc (by omega) (fun kd of p n t k cl fn R u hp hn => lk_ls (o := (kd, of) :: o) hc bk2_V (lk_b2 (show o.length + 1 = 2 by omega)) (by decide) (fun q => absurd q (by decide)) (fun _ q => absurd (show o.length + 1 = 0 from q) (by omega)) (Or.inr ⟨kd, of, o, rfl, rfl⟩) 401 p n t k cl fn R u hp hn (by have := hc.1; omega) (fun q => absurd q (by decide)))
theorem lk_b0 {N : Nat} {c : Nat → Int} (hc : eTx N c) : lkK N c 2 [] (bk0 c) := lk_bk hc (by decide) (fun kd of p n t k cl fn R u hp hn => lk_ls (o := [(kd, of)]) hc (bk1_V hc) (lk_b1 hc rfl) (by decide) (fun q => absurd q (by decide)) (fun _ q => absurd (show (1 : Nat) = 0 from q) (by decide)) (Or.inr ⟨kd, of, [], rfl, rfl⟩) 401 p n t k cl fn R u hp hn (by have := hc.1; omega) (fun q => absurd q (by decide)))
theorem lk_top {N : Nat} {c : Nat → Int} (hc : eTx N c) (cl : Nat → Int) : lkR N c 0 0 [] cl (fun _ => (0, 0, 0, [], [], 0)) (ls0 c (-1) (1, 0, 0, cl, fun _ => -1)) rdX0 (lkL N c 2 0 0 true (-1) cl (fun _ => -1) (fun _ => (0, 0, 0, [], [], 0)) (fun _ => -1) (ls0 c (-1) (1, 0, 0, cl, fun _ => -1))) := lk_ls (o := []) hc (bk0_V hc) (lk_b0 hc) (by decide) (fun _ => ⟨rfl, rfl⟩) (fun q => absurd q (by decide)) (Or.inl ⟨rfl, rfl⟩) 401 0 0 0 0 cl (fun _ => -1) _ _ (Nat.zero_le N) (Nat.zero_le _) (by have := hc.1; omega) (fun _ f _ => Or.inl ⟨rfl, rfl⟩)
