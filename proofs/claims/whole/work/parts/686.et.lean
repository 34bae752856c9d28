/-! et: a board kept: what is told to the log, net by net -/
theorem sv_n {g : Nat → Int} {s : StS} {z : Nat} {f : Nat → Int} {N : Nat} (h : svR g s f N = -1) : svG g s z f N = lgN g z N f ∧ stAct (svG g s z f N) z s = stApp (sB s) (stNw (z + 2) N s) ∧ stSz (svG g s z f N) z = 2 + N := by
  have e : svG g s z f N = lgN g z N f := if_pos h
  rw [e]
  refine ⟨rfl, ?_, ?_⟩
  · rw [stAct_1 lgN_at, lgN_at1]
    rfl
  · have h2 : stSz (lgN g z N f) z = 2 + (lgN g z N f (z + 1)).toNat := if_pos lgN_at
    rw [h2, lgN_at1]
    rfl
theorem sv_o {g : Nat → Int} {s : StS} {z : Nat} {f : Nat → Int} {N : Nat} (h : ¬ svR g s f N = -1) : svG g s z f N = lg2 g z 2 (svR g s f N) ∧ stAct (svG g s z f N) z s = stApp (svR g s f N).toNat s ∧ stSz (svG g s z f N) z = 2 := by
  have e : svG g s z f N = lg2 g z 2 (svR g s f N) := if_neg h
  rw [e]
  refine ⟨rfl, ?_, stSz_2 (Or.inl lg2_at)⟩
  rw [stAct_2 lg2_at, lg2_at1 h]
theorem sv_lo {g : Nat → Int} {s : StS} {z : Nat} {f : Nat → Int} {N : Nat} : ∀ j, j < z → g j = svG g s z f N j := fun j hj => by
  by_cases h : svR g s f N = -1
  · rw [(sv_n h).1]; exact lgN_lo j hj
  · rw [(sv_o h).1]; exact lg2_lo j hj
theorem sv_ok {g : Nat → Int} {s : StS} {z : Nat} {f : Nat → Int} {N : Nat} (hN : N ≤ 24) (h8 : sC s (sV s) < 8) (hf : (svR g s f N = -1 → sB s < 24 ∧ z + 2 + N ≤ 400) ∧ (svR g s f N ≠ -1 → z + 2 ≤ 400)) : stOk (svG g s z f N) z s := by
  by_cases h : svR g s f N = -1
  · have w := sv_n (z := z) h
    refine ⟨by rw [w.2.2]; have := (hf.1 h).2; omega, Or.inl ?_⟩
    rw [w.1, lgN_at, lgN_at1]
    exact ⟨rfl, by omega, by omega, (hf.1 h).1, h8⟩
  · have w := sv_o (z := z) h
    have hb := svR_b g s f N
    refine ⟨by rw [w.2.2]; exact hf.2 h, Or.inr (Or.inl ?_)⟩
    rw [w.1, lg2_at, lg2_at1 h]
    exact ⟨rfl, by omega, by omega, h8⟩
theorem svR_st {g g' : Nat → Int} {s s' : StS} {z : Nat} (hG : stG z s) (hg : ∀ j, j < z → g j = g' j) (hb : sB s ≤ sB s') (hs : ∀ b, b < sB s → sT s' b = sT s b ∧ sL s' b = sL s b ∧ sF s' b = sF s b) {f : Nat → Int} {N : Nat} (h : ¬ svR g s f N = -1) : ¬ svR g' s' f N = -1 := by
  intro h9
  rcases zlow_sp (stSm g' s' f N) (sB s') with q | ⟨r, q1, q2, -⟩
  · rcases zlow_sp (stSm g s f N) (sB s) with w | ⟨r, w1, w2, w3, -⟩
    · exact h w.1
    · refine q.2 r (by omega) ?_
      obtain ⟨e1, e2, e3⟩ := hs r w1
      refine ⟨e1.trans w3.1, e2.trans w3.2.1, fun i hi => ?_⟩
      rw [e3, ← hg _ (by have z1 := (hG.2.2.2 r w1).2.2; have z2 := w3.2.1; omega)]
      exact w3.2.2 i hi
  · unfold svR at h9
    omega
abbrev SvK : Type := (Nat → Int) × Nat × StS × Nat
noncomputable def svT (f : Nat → Int) (N : Nat) (x : SvK) : SvK := if N = 0 then x else (svG x.1 x.2.2.1 x.2.2.2 f N, x.2.1 + 1, stAct (svG x.1 x.2.2.1 x.2.2.2 f N) x.2.2.2 x.2.2.1, x.2.2.2 + stSz (svG x.1 x.2.2.1 x.2.2.2 f N) x.2.2.2)
noncomputable def svK (s : BdS) (x : SvK) : Nat → SvK
  | 0 => x
  | n + 1 => svT (gaF s n (bnp s)) (gaN s n (bnp s)) (svK s x n)
noncomputable def svkR (s : BdS) : Nat → Nat
  | 0 => 0
  | n + 1 => svkR s n + if gaN s n (bnp s) = 0 then 0 else 1
noncomputable def svkF (s : BdS) (x : SvK) : Nat → Nat
  | 0 => 0
  | n + 1 => svkF s x n + if gaN s n (bnp s) = 0 then 0 else if svR x.1 x.2.2.1 (gaF s n (bnp s)) (gaN s n (bnp s)) = -1 then 1 else 0
noncomputable def svkN (s : BdS) (x : SvK) : Nat → Nat
  | 0 => 0
  | n + 1 => svkN s x n + if gaN s n (bnp s) = 0 then 0 else if svR x.1 x.2.2.1 (gaF s n (bnp s)) (gaN s n (bnp s)) = -1 then 2 + gaN s n (bnp s) else 2
theorem svkR_b (s : BdS) : ∀ n, svkR s n ≤ n
  | 0 => Nat.le_refl 0
  | n + 1 => by
    have h := svkR_b s n
    show svkR s n + (if gaN s n (bnp s) = 0 then 0 else 1) ≤ n + 1
    split <;> omega
theorem svkF_b (s : BdS) (x : SvK) : ∀ n, svkF s x n ≤ n
  | 0 => Nat.le_refl 0
  | n + 1 => by
    have h := svkF_b s x n
    show svkF s x n + (if gaN s n (bnp s) = 0 then 0 else if svR x.1 x.2.2.1 (gaF s n (bnp s)) (gaN s n (bnp s)) = -1 then 1 else 0) ≤ n + 1
    split
    · omega
    · split <;> omega
theorem svkN_b {s : BdS} {x : SvK} (hg : bGd s) : ∀ {n : Nat}, n ≤ bnn s → svkN s x n ≤ 22 * n
  | 0, _ => Nat.le_refl 0
  | n + 1, hn => by
    have h := svkN_b (x := x) hg (n := n) (by omega)
    have h2 := gaN_le hg (n := n) (by omega) (Nat.le_refl _)
    show svkN s x n + (if gaN s n (bnp s) = 0 then 0 else if svR x.1 x.2.2.1 (gaF s n (bnp s)) (gaN s n (bnp s)) = -1 then 2 + gaN s n (bnp s) else 2) ≤ 22 * (n + 1)
    split
    · omega
    · split <;> omega
def svFit (s : BdS) (x : SvK) : Prop := sC x.2.2.1 (sV x.2.2.1) + svkR s (bnn s) ≤ 8 ∧ sB x.2.2.1 + svkF s x (bnn s) ≤ 24 ∧ sV x.2.2.1 < 12 ∧ x.2.2.2 + 1 + svkN s x (bnn s) ≤ 400
def svIn (s : BdS) (x : SvK) (n : Nat) : Prop := stG (svK s x n).2.2.2 (svK s x n).2.2.1 ∧ sV (svK s x n).2.2.1 = sV x.2.2.1 ∧ sC (svK s x n).2.2.1 (sV x.2.2.1) = sC x.2.2.1 (sV x.2.2.1) + svkR s n ∧ sB (svK s x n).2.2.1 ≤ sB x.2.2.1 + svkF s x n ∧ (svK s x n).2.2.2 ≤ x.2.2.2 + svkN s x n ∧ ∀ f N, ¬ svR x.1 x.2.2.1 f N = -1 → ¬ svR (svK s x n).1 (svK s x n).2.2.1 f N = -1
theorem svkR_m {s : BdS} {n : Nat} : ∀ {m : Nat}, n ≤ m → svkR s n ≤ svkR s m
  | 0, h => by rw [show n = 0 by omega]; exact Nat.le_refl _
  | m + 1, h => by
    by_cases e : n = m + 1
    · rw [e]; exact Nat.le_refl _
    · exact Nat.le_trans (svkR_m (show n ≤ m by omega)) (Nat.le_add_right _ _)
theorem svkF_m {s : BdS} {x : SvK} {n : Nat} : ∀ {m : Nat}, n ≤ m → svkF s x n ≤ svkF s x m
  | 0, h => by rw [show n = 0 by omega]; exact Nat.le_refl _
  | m + 1, h => by
    by_cases e : n = m + 1
    · rw [e]; exact Nat.le_refl _
    · exact Nat.le_trans (svkF_m (show n ≤ m by omega)) (Nat.le_add_right _ _)
theorem svkN_m {s : BdS} {x : SvK} {n : Nat} : ∀ {m : Nat}, n ≤ m → svkN s x n ≤ svkN s x m
  | 0, h => by rw [show n = 0 by omega]; exact Nat.le_refl _
  | m + 1, h => by
    by_cases e : n = m + 1
    · rw [e]; exact Nat.le_refl _
    · exact Nat.le_trans (svkN_m (show n ≤ m by omega)) (Nat.le_add_right _ _)
theorem svIn_0 {s : BdS} {x : SvK} (h : stG x.2.2.2 x.2.2.1) : svIn s x 0 := ⟨h, rfl, rfl, Nat.le_refl _, Nat.le_refl _, fun _ _ h => h⟩
/-- what a block more asks is there -/
theorem svIn_f {s : BdS} {x : SvK} {n : Nat} (h : svIn s x n) (hf : svFit s x) (hn : n < bnn s) (hz : ¬ gaN s n (bnp s) = 0) :
    sC (svK s x n).2.2.1 (sV (svK s x n).2.2.1) < 8 ∧ (svR (svK s x n).1 (svK s x n).2.2.1 (gaF s n (bnp s)) (gaN s n (bnp s)) = -1 → sB (svK s x n).2.2.1 < 24 ∧ (svK s x n).2.2.2 + 2 + gaN s n (bnp s) ≤ 400) ∧ (svR (svK s x n).1 (svK s x n).2.2.1 (gaF s n (bnp s)) (gaN s n (bnp s)) ≠ -1 → (svK s x n).2.2.2 + 2 ≤ 400) := by
  obtain ⟨h1, h2, h3, h4, h5, h6⟩ := h
  obtain ⟨f1, f2, f3, f4⟩ := hf
  have r1 : svkR s (n + 1) = svkR s n + 1 := by
    show svkR s n + (if gaN s n (bnp s) = 0 then 0 else 1) = _
    rw [if_neg hz]
  have r2 := svkR_m (s := s) (show n + 1 ≤ bnn s by omega)
  have r3 := svkF_m (s := s) (x := x) (show n + 1 ≤ bnn s by omega)
  have r4 := svkN_m (s := s) (x := x) (show n + 1 ≤ bnn s by omega)
  refine ⟨by rw [h2, h3]; omega, fun q => ?_, fun q => ?_⟩
  · have q0 : svR x.1 x.2.2.1 (gaF s n (bnp s)) (gaN s n (bnp s)) = -1 := Classical.byContradiction fun w => h6 _ _ w q
    have e1 : svkF s x (n + 1) = svkF s x n + 1 := by
      show svkF s x n + (if gaN s n (bnp s) = 0 then 0 else if svR x.1 x.2.2.1 (gaF s n (bnp s)) (gaN s n (bnp s)) = -1 then 1 else 0) = _
      rw [if_neg hz, if_pos q0]
    have e2 : svkN s x (n + 1) = svkN s x n + (2 + gaN s n (bnp s)) := by
      show svkN s x n + (if gaN s n (bnp s) = 0 then 0 else if svR x.1 x.2.2.1 (gaF s n (bnp s)) (gaN s n (bnp s)) = -1 then 2 + gaN s n (bnp s) else 2) = _
      rw [if_neg hz, if_pos q0]
    omega
  · have e2 : svkN s x n + 2 ≤ svkN s x (n + 1) := by
      show _ ≤ svkN s x n + (if gaN s n (bnp s) = 0 then 0 else if svR x.1 x.2.2.1 (gaF s n (bnp s)) (gaN s n (bnp s)) = -1 then 2 + gaN s n (bnp s) else 2)
      rw [if_neg hz]
      split <;> omega
    omega
theorem svK_y {s : BdS} {x : SvK} {n : Nat} (hz : ¬ gaN s n (bnp s) = 0) : svK s x (n + 1) = (svG (svK s x n).1 (svK s x n).2.2.1 (svK s x n).2.2.2 (gaF s n (bnp s)) (gaN s n (bnp s)), (svK s x n).2.1 + 1, stAct (svG (svK s x n).1 (svK s x n).2.2.1 (svK s x n).2.2.2 (gaF s n (bnp s)) (gaN s n (bnp s))) (svK s x n).2.2.2 (svK s x n).2.2.1, (svK s x n).2.2.2 + stSz (svG (svK s x n).1 (svK s x n).2.2.1 (svK s x n).2.2.2 (gaF s n (bnp s)) (gaN s n (bnp s))) (svK s x n).2.2.2) := if_neg hz
theorem svK_n {s : BdS} {x : SvK} {n : Nat} (hz : gaN s n (bnp s) = 0) : svK s x (n + 1) = svK s x n := if_pos hz
theorem svIn_s {s : BdS} {x : SvK} {n : Nat} (hg : bGd s) (h : svIn s x n) (hf : svFit s x) (hn : n < bnn s) : svIn s x (n + 1) := by
  by_cases hz : gaN s n (bnp s) = 0
  · obtain ⟨h1, h2, h3, h4, h5, h6⟩ := h
    have e1 : svkR s (n + 1) = svkR s n := by
      show svkR s n + (if gaN s n (bnp s) = 0 then 0 else 1) = _
      rw [if_pos hz]
      rfl
    have e2 := svkF_m (s := s) (x := x) (show n ≤ n + 1 by omega)
    have e3 := svkN_m (s := s) (x := x) (show n ≤ n + 1 by omega)
    unfold svIn
    rw [svK_n hz, e1]
    exact ⟨h1, h2, h3, by omega, by omega, h6⟩
  · have w := svIn_f h hf hn hz
    have hok := sv_ok (z := (svK s x n).2.2.2) (by have := gaN_le hg hn (Nat.le_refl _); omega) w.1 w.2
    obtain ⟨h1, h2, h3, h4, h5, h6⟩ := h
    have r1 : svkR s (n + 1) = svkR s n + 1 := by
      show svkR s n + (if gaN s n (bnp s) = 0 then 0 else 1) = _
      rw [if_neg hz]
    have hGn := stG_act h1 hok
    unfold svIn
    rw [svK_y hz, r1]
    by_cases q : svR (svK s x n).1 (svK s x n).2.2.1 (gaF s n (bnp s)) (gaN s n (bnp s)) = -1
    · have v := sv_n (z := (svK s x n).2.2.2) q
      have q0 : svR x.1 x.2.2.1 (gaF s n (bnp s)) (gaN s n (bnp s)) = -1 := Classical.byContradiction fun w => h6 _ _ w q
      have e1 : svkF s x (n + 1) = svkF s x n + 1 := by
        show svkF s x n + (if gaN s n (bnp s) = 0 then 0 else if svR x.1 x.2.2.1 (gaF s n (bnp s)) (gaN s n (bnp s)) = -1 then 1 else 0) = _
        rw [if_neg hz, if_pos q0]
      have e2 : svkN s x (n + 1) = svkN s x n + (2 + gaN s n (bnp s)) := by
        show svkN s x n + (if gaN s n (bnp s) = 0 then 0 else if svR x.1 x.2.2.1 (gaF s n (bnp s)) (gaN s n (bnp s)) = -1 then 2 + gaN s n (bnp s) else 2) = _
        rw [if_neg hz, if_pos q0]
      refine ⟨hGn, ?_, ?_, ?_, ?_, fun f N hq => ?_⟩
      · show sV (stAct _ _ _) = _
        rw [v.2.1]; exact h2
      · show sC (stAct _ _ _) _ = _
        rw [v.2.1]
        show upF (sC (svK s x n).2.2.1) (sV (svK s x n).2.2.1) (sC (svK s x n).2.2.1 (sV (svK s x n).2.2.1) + 1) (sV x.2.2.1) = _
        rw [h2]
        unfold upF
        rw [if_pos rfl, h3]
        omega
      · show sB (stAct _ _ _) ≤ _
        rw [v.2.1]
        show sB (svK s x n).2.2.1 + 1 ≤ _
        omega
      · show (svK s x n).2.2.2 + stSz _ _ ≤ _
        rw [v.2.2]; omega
      · refine svR_st h1 (fun j hj => sv_lo j hj) ?_ (fun b hb => ?_) (h6 f N hq)
        · show _ ≤ sB (stAct _ _ _)
          rw [v.2.1]; exact Nat.le_succ _
        · show sT (stAct _ _ _) b = _ ∧ sL (stAct _ _ _) b = _ ∧ sF (stAct _ _ _) b = _
          rw [v.2.1]
          exact ⟨if_neg (by omega), if_neg (by omega), if_neg (by omega)⟩
    · have v := sv_o (z := (svK s x n).2.2.2) q
      have e1 := svkF_m (s := s) (x := x) (show n ≤ n + 1 by omega)
      have e2 : svkN s x n + 2 ≤ svkN s x (n + 1) := by
        show _ ≤ svkN s x n + (if gaN s n (bnp s) = 0 then 0 else if svR x.1 x.2.2.1 (gaF s n (bnp s)) (gaN s n (bnp s)) = -1 then 2 + gaN s n (bnp s) else 2)
        rw [if_neg hz]
        split <;> omega
      refine ⟨hGn, ?_, ?_, ?_, ?_, fun f N hq => ?_⟩
      · show sV (stAct _ _ _) = _
        rw [v.2.1]; exact h2
      · show sC (stAct _ _ _) _ = _
        rw [v.2.1]
        show upF (sC (svK s x n).2.2.1) (sV (svK s x n).2.2.1) (sC (svK s x n).2.2.1 (sV (svK s x n).2.2.1) + 1) (sV x.2.2.1) = _
        rw [h2]
        unfold upF
        rw [if_pos rfl, h3]
        omega
      · show sB (stAct _ _ _) ≤ _
        rw [v.2.1]
        show sB (svK s x n).2.2.1 ≤ _
        omega
      · show (svK s x n).2.2.2 + stSz _ _ ≤ _
        rw [v.2.2]; omega
      · refine svR_st h1 (fun j hj => sv_lo j hj) ?_ (fun b hb => ?_) (h6 f N hq)
        · show _ ≤ sB (stAct _ _ _)
          rw [v.2.1]; exact Nat.le_refl _
        · show sT (stAct _ _ _) b = _ ∧ sL (stAct _ _ _) b = _ ∧ sF (stAct _ _ _) b = _
          rw [v.2.1]
          exact ⟨rfl, rfl, rfl⟩
/-- the last state, and the number told -/
noncomputable def svE (s : BdS) (x : SvK) : SvK := (lg2 (svK s x (bnn s)).1 (svK s x (bnn s)).2.2.2 3 (-1), (svK s x (bnn s)).2.1 + 1, stClo (svK s x (bnn s)).2.2.1, (svK s x (bnn s)).2.2.2 + 1)
noncomputable def svV (b cr : Nat) (s : BdS) (x : SvK) : Int := if b = 0 ∨ cr = 1 then -3 else zite (svFit s x) (sV x.2.2.1 : Int) (-1)
theorem svE_ok {s : BdS} {x : SvK} (h : svIn s x (bnn s)) (hf : svFit s x) : stOk (lg2 (svK s x (bnn s)).1 (svK s x (bnn s)).2.2.2 3 (-1)) (svK s x (bnn s)).2.2.2 (svK s x (bnn s)).2.2.1 ∧ stSz (lg2 (svK s x (bnn s)).1 (svK s x (bnn s)).2.2.2 3 (-1)) (svK s x (bnn s)).2.2.2 = 1 ∧ stAct (lg2 (svK s x (bnn s)).1 (svK s x (bnn s)).2.2.2 3 (-1)) (svK s x (bnn s)).2.2.2 (svK s x (bnn s)).2.2.1 = stClo (svK s x (bnn s)).2.2.1 := by
  obtain ⟨h1, h2, h3, h4, h5, h6⟩ := h
  obtain ⟨f1, f2, f3, f4⟩ := hf
  have e := stSz_3 (g := lg2 (svK s x (bnn s)).1 (svK s x (bnn s)).2.2.2 3 (-1)) (a := (svK s x (bnn s)).2.2.2) (Or.inl lg2_at)
  exact ⟨⟨by rw [e]; omega, Or.inr (Or.inr (Or.inl ⟨lg2_at, by omega⟩))⟩, e, stAct_3 lg2_at⟩
theorem svV_y {b cr : Nat} {s : BdS} {x : SvK} (hb : ¬ (b = 0 ∨ cr = 1)) (h : svFit s x) : svV b cr s x = sV x.2.2.1 := (if_neg hb).trans (zite_t h)
theorem svV_n {b cr : Nat} {s : BdS} {x : SvK} (hb : ¬ (b = 0 ∨ cr = 1)) (h : ¬ svFit s x) : svV b cr s x = -1 := (if_neg hb).trans (zite_f h)
theorem svV_3 {b cr : Nat} {s : BdS} {x : SvK} (hb : b = 0 ∨ cr = 1) : svV b cr s x = -3 := if_pos hb
theorem svk_y1 {s : BdS} {x : SvK} {n : Nat} (hz : ¬ gaN s n (bnp s) = 0) (h : svR x.1 x.2.2.1 (gaF s n (bnp s)) (gaN s n (bnp s)) = -1) : svkR s (n + 1) = svkR s n + 1 ∧ svkF s x (n + 1) = svkF s x n + 1 ∧ svkN s x (n + 1) = svkN s x n + (2 + gaN s n (bnp s)) := by
  refine ⟨?_, ?_, ?_⟩
  · show svkR s n + (if gaN s n (bnp s) = 0 then 0 else 1) = _
    rw [if_neg hz]
  · show svkF s x n + (if gaN s n (bnp s) = 0 then 0 else if svR x.1 x.2.2.1 (gaF s n (bnp s)) (gaN s n (bnp s)) = -1 then 1 else 0) = _
    rw [if_neg hz, if_pos h]
  · show svkN s x n + (if gaN s n (bnp s) = 0 then 0 else if svR x.1 x.2.2.1 (gaF s n (bnp s)) (gaN s n (bnp s)) = -1 then 2 + gaN s n (bnp s) else 2) = _
    rw [if_neg hz, if_pos h]
theorem svk_y0 {s : BdS} {x : SvK} {n : Nat} (hz : ¬ gaN s n (bnp s) = 0) (h : ¬ svR x.1 x.2.2.1 (gaF s n (bnp s)) (gaN s n (bnp s)) = -1) : svkR s (n + 1) = svkR s n + 1 ∧ svkF s x (n + 1) = svkF s x n ∧ svkN s x (n + 1) = svkN s x n + 2 := by
  refine ⟨?_, ?_, ?_⟩
  · show svkR s n + (if gaN s n (bnp s) = 0 then 0 else 1) = _
    rw [if_neg hz]
  · show svkF s x n + (if gaN s n (bnp s) = 0 then 0 else if svR x.1 x.2.2.1 (gaF s n (bnp s)) (gaN s n (bnp s)) = -1 then 1 else 0) = _
    rw [if_neg hz, if_neg h]
    rfl
  · show svkN s x n + (if gaN s n (bnp s) = 0 then 0 else if svR x.1 x.2.2.1 (gaF s n (bnp s)) (gaN s n (bnp s)) = -1 then 2 + gaN s n (bnp s) else 2) = _
    rw [if_neg hz, if_neg h]
theorem svk_n {s : BdS} {x : SvK} {n : Nat} (hz : gaN s n (bnp s) = 0) : svkR s (n + 1) = svkR s n ∧ svkF s x (n + 1) = svkF s x n ∧ svkN s x (n + 1) = svkN s x n := by
  refine ⟨?_, ?_, ?_⟩
  · show svkR s n + (if gaN s n (bnp s) = 0 then 0 else 1) = _
    rw [if_pos hz]
    rfl
  · show svkF s x n + (if gaN s n (bnp s) = 0 then 0 else if svR x.1 x.2.2.1 (gaF s n (bnp s)) (gaN s n (bnp s)) = -1 then 1 else 0) = _
    rw [if_pos hz]
    rfl
  · show svkN s x n + (if gaN s n (bnp s) = 0 then 0 else if svR x.1 x.2.2.1 (gaF s n (bnp s)) (gaN s n (bnp s)) = -1 then 2 + gaN s n (bnp s) else 2) = _
    rw [if_pos hz]
    rfl
