/-! ff: SCRIPTS: the reference's machine reads what the grammar reads -/
theorem exB_1 {c : Nat → Int} {p : Nat} : (exB c p).1 = 1 ∨ (exB c p).1 = 0 := by
  unfold exB
  by_cases e1 : 48 ≤ c p ∧ c p ≤ 57
  · rw [if_pos e1]; exact Or.inl rfl
  · rw [if_neg e1]
    by_cases e2 : 97 ≤ c p ∧ c p ≤ 122
    · rw [if_pos e2]; exact Or.inl rfl
    · rw [if_neg e2]
      by_cases e3 : c p = 35
      · rw [if_pos e3]; exact Or.inl rfl
      · rw [if_neg e3]; exact Or.inr rfl
theorem rcA_B {c : Nat → Int} {wh p m w : Nat} {s : Nat → Int} {K : CdL} (h : ¬ (c p = 45 ∨ c p = 40 ∨ c p = 64 ∨ c p = 39) ∨ w = 3) : rcA c wh (exB c p) p m s w K := by
  by_cases e : c p = 45 ∨ c p = 40 ∨ c p = 64 ∨ c p = 39
  · have hw : w = 3 := by
      rcases h with h | h
      · exact absurd e h
      · exact h
    have z : exB c p = exF p := exB_f (by omega) (by omega) (by omega)
    rw [z]
    refine Or.inr ⟨rfl, (1, p, m, s, w, K), rfl, itR_1 ?_⟩
    rw [rcS_g]
    unfold rcP
    rw [if_pos rfl, if_pos e, if_pos hw]
  · rcases exB_1 (c := c) (p := p) with q | q
    · refine Or.inl ⟨q, s, fun _ _ => rfl, itR_1 ?_⟩
      rw [rcS_g]
      unfold rcP
      rw [if_pos rfl, if_neg e, if_pos q]
    · refine Or.inr ⟨q, (0, (exB c p).2.1, m, s, w, K), rfl, itR_1 ?_⟩
      rw [rcS_g]
      unfold rcP
      rw [if_pos rfl, if_neg e, if_neg (by omega)]
theorem rcS_n {c : Nat → Int} {wh p m w : Nat} {s : Nat → Int} {K : CdL} (h : c p = 45 ∨ c p = 40 ∨ c p = 64 ∨ c p = 39) (hw : ¬ w = 3) : rcS c wh (1, 1, p, m, s, w, K) = (1, 1, p + 1, m + 1, upF s m (if c p = 45 then 95 else c p), w + 1, K) := by
  rw [rcS_g]
  unfold rcP
  rw [if_pos rfl, if_pos h, if_neg hw]
theorem rcA_un {c : Nat → Int} {wh p m w : Nat} {s : Nat → Int} {K : CdL} {x : ExR} {u : Int} (h : c p = 45 ∨ c p = 40 ∨ c p = 64 ∨ c p = 39) (hw : ¬ w = 3) (hu : (if c p = 45 then 95 else c p) = u) (hu2 : u = 95 ∨ u = 39) (hA : rcA c wh x (p + 1) (m + 1) (upF s m u) (w + 1) K) : rcA c wh (exUn u x) p m s w K := by
  have hst := rcS_n (wh := wh) (m := m) (s := s) (K := K) h hw
  rw [hu] at hst
  rcases hA with ⟨h1, s', hg, hr⟩ | ⟨h1, z, hz, hr⟩
  · have q := agB_up hg
    have e : exUn u x = (1, x.2.1, x.2.2 ++ [(u, 0)]) := if_pos h1
    rw [e]
    refine Or.inl ⟨rfl, s', q.1, itR_t (itR_1 hst) ?_⟩
    have e2 : rcC c s' (m + 1) x.2.1 (w + 1) (K ++ x.2.2) = rcC c s' m x.2.1 w (K ++ x.2.2 ++ [(u, 0)]) := by
      show (if s' m = 95 ∨ s' m = 39 then rcC c s' m x.2.1 (w + 1 - 1) (K ++ x.2.2 ++ [(s' m, 0)]) else _) = _
      rw [q.2, if_pos hu2]
      rfl
    rw [e2, List.append_assoc] at hr
    exact hr
  · have e : exUn u x = x := if_neg (by omega)
    rw [e]
    exact Or.inr ⟨h1, z, hz, itR_t (itR_1 hst) hr⟩
theorem rcA_fd {c : Nat → Int} {wh p m w : Nat} {s : Nat → Int} {K : CdL} {x : ExR} (h : c p = 64) (hw : ¬ w = 3) (hA : rcA c wh x (p + 1) (m + 1) (upF s m 64) (w + 1) K) : rcA c wh (exFd c x) p m s w K := by
  have hst := rcS_n (wh := wh) (m := m) (s := s) (K := K) (p := p) (Or.inr (Or.inr (Or.inl h))) hw
  rw [if_neg (by omega), h] at hst
  rcases hA with ⟨h1, s', hg, hr⟩ | ⟨h1, z, hz, hr⟩
  · have q := agB_up hg
    have e2 : rcC c s' (m + 1) x.2.1 (w + 1) (K ++ x.2.2) = if c x.2.1 = 58 then (if 48 ≤ c (x.2.1 + 1) ∧ c (x.2.1 + 1) ≤ 53 then rcC c s' m (x.2.1 + 2) w (K ++ x.2.2 ++ [(64, c (x.2.1 + 1) - 48)]) else (0, 0, x.2.1 + 1, m + 1, s', w + 1, K ++ x.2.2)) else (0, 0, x.2.1, m + 1, s', w + 1, K ++ x.2.2) := by
      show (if s' m = 95 ∨ s' m = 39 then _ else if s' m = 64 then _ else _) = _
      rw [q.2, if_neg (by decide), if_pos rfl]
      rfl
    rw [e2] at hr
    have e : exFd c x = if c x.2.1 = 58 then (if 48 ≤ c (x.2.1 + 1) ∧ c (x.2.1 + 1) ≤ 53 then (1, x.2.1 + 2, x.2.2 ++ [(64, c (x.2.1 + 1) - 48)]) else exF (x.2.1 + 1)) else exF x.2.1 := if_pos h1
    rw [e]
    by_cases q1 : c x.2.1 = 58
    · rw [if_pos q1] at hr ⊢
      by_cases q2 : 48 ≤ c (x.2.1 + 1) ∧ c (x.2.1 + 1) ≤ 53
      · rw [if_pos q2] at hr ⊢
        refine Or.inl ⟨rfl, s', q.1, itR_t (itR_1 hst) ?_⟩
        rw [List.append_assoc] at hr
        exact hr
      · rw [if_neg q2] at hr ⊢
        exact Or.inr ⟨rfl, _, rfl, itR_t (itR_1 hst) hr⟩
    · rw [if_neg q1] at hr ⊢
      exact Or.inr ⟨rfl, _, rfl, itR_t (itR_1 hst) hr⟩
  · have e : exFd c x = x := if_neg (by omega)
    rw [e]
    exact Or.inr ⟨h1, z, hz, itR_t (itR_1 hst) hr⟩
/-- a whole expression: what it leaves -/
def rcF (c : Nat → Int) (wh : Nat) (x : ExR) (p m : Nat) (s : Nat → Int) (w : Nat) (K : CdL) : Prop := (x.1 = 1 ∧ sgS (c x.2.1) ≤ 1 ∧ ∃ m1 s' K1, agB s s' m ∧ drM s' 1 m1 = m ∧ K1 ++ drK s' 1 m1 = K ++ x.2.2 ∧ (sgS (c x.2.1) = 1 → hcN s' m1 = 1) ∧ itR (rcS c wh) (1, 1, p, m, s, w, K) (1, 0, x.2.1, m1, s', w, K1)) ∨ (x.1 = 0 ∧ ∃ z : Nat × Nat × Nat × (Nat → Int) × Nat × CdL, z.2.1 = x.2.1 ∧ itR (rcS c wh) (1, 1, p, m, s, w, K) (0, z))
theorem rcPr {c : Nat → Int} {wh w : Nat} {A : Nat → ExR} (hA : ∀ p m s K, rcA c wh (A p) p m s w K) {p m : Nat} {s : Nat → Int} {K : CdL} (ht : tpN s m) (h3 : tpS s m < 3) (hw : ¬ (m = 0 ∧ wh = 0)) : rcE 3 c wh (exPr c A p) p m s w K := by
  refine exLp_rc (l := 3) (by decide) ⟨rfl, rfl, rfl⟩ h3 hw (fun p' s' u K' hu => rcA_E (hA _ _ _ _) (fun q hq => ?_)) (rcE_dn (rcA_E (hA _ _ _ _) ht) h3)
  have e : q = m := by omega
  subst e
  unfold upF
  rw [if_pos rfl]
  refine ⟨fun g => ?_, fun g => ?_, fun g => ?_⟩ <;> (rw [g] at hu; exact absurd hu (by decide))
theorem rcSm {c : Nat → Int} {wh w : Nat} {A : Nat → ExR} (hA : ∀ p m s K, rcA c wh (A p) p m s w K) {p m : Nat} {s : Nat → Int} {K : CdL} (ht : tpN s m) (h2 : tpS s m < 2) (hw : ¬ (m = 0 ∧ wh = 0)) : rcE 2 c wh (exSm c A p) p m s w K := by
  refine exLp_rc (l := 2) (by decide) ⟨rfl, rfl, rfl⟩ h2 hw (fun p' s' u K' hu => rcPr hA (fun q hq => ?_) ?_ (by omega)) (rcE_dn (rcPr hA ht (by omega) hw) h2)
  · have e : q = m := by omega
    subst e
    unfold upF
    rw [if_pos rfl]
    refine ⟨fun g => ?_, fun g => ?_, fun g => ?_⟩ <;> (rw [g] at hu; exact absurd hu (by decide))
  · show sgS (upF s' m u m) < 3
    unfold upF
    rw [if_pos rfl, hu]
    decide
theorem exSm_end {n : Nat} {c : Nat → Int} (h : eTx n c) {A : Nat → ExR} (hA : ∀ p, p ≤ n → exOk n p (A p)) (hA2 : ∀ p, n < p → (A p).1 = 0) {p : Nat} (hp : p ≤ n) (h1 : (exSm c A p).1 = 1) : sgS (c (exSm c A p).2.1) ≤ 1 := by
  have hPr : ∀ p, p ≤ n → exOk n p (exPr c A p) := fun q hq => exPr_ok h hA hq
  have e1 := exLp_fin h (a := 43) (b := 45) (d := 45) (by decide) hPr (m := 400) (x := exPr c A p) (fun g => by have w := hPr p hp; have w2 := h.1; unfold exOk at w; omega) h1
  have e2 : ¬ (c (exSm c A p).2.1 = 42 ∨ c (exSm c A p).2.1 = 47 ∨ c (exSm c A p).2.1 = 37) := by
    have hq : ∀ p, (exPr c A p).1 = 1 → ¬ (c (exPr c A p).2.1 = 42 ∨ c (exPr c A p).2.1 = 47 ∨ c (exPr c A p).2.1 = 37) := fun p g => by
      rcases Nat.lt_or_ge n p with q | q
      · exfalso
        have z := hA2 p q
        have e : exPr c A p = A p := exLp_0 (by omega)
        rw [e] at g
        omega
      · exact exLp_fin h (by decide) hA (fun g2 => by have w := hA p q; have w2 := h.1; unfold exOk at w; omega) g
    exact exLp_q (Q := fun u => ¬ (u = 42 ∨ u = 47 ∨ u = 37)) hq (hq p) h1
  have e3 : ¬ (c (exSm c A p).2.1 = 43 ∨ c (exSm c A p).2.1 = 45) := fun q => e1 (by rcases q with q | q; exact Or.inl q; exact Or.inr (Or.inl q))
  unfold sgS
  rw [if_neg e2, if_neg e3]
  by_cases e4 : c (exSm c A p).2.1 = 60 ∨ c (exSm c A p).2.1 = 61
  · rw [if_pos e4]; exact Nat.le_refl 1
  · rw [if_neg e4]; decide
theorem rcCm {n : Nat} {c : Nat → Int} (h : eTx n c) {wh w : Nat} {A : Nat → ExR} (hA : ∀ p m s K, rcA c wh (A p) p m s w K) (hA1 : ∀ p, p ≤ n → exOk n p (A p)) (hA2 : ∀ p, n < p → (A p).1 = 0) {p m : Nat} (hp : p ≤ n) {s : Nat → Int} {K : CdL} (hb : (m = 0 ∧ wh = 1) ∨ ∃ q, m = q + 1 ∧ s q = 40) : rcF c wh (exCm c A p) p m s w K := by
  have ht : tpN s m := fun q hq => by
    rcases hb with hb | ⟨q2, hb, hb2⟩
    · omega
    · have e : q = q2 := by omega
      subst e
      omega
  have h0 : tpS s m = 0 := by
    rcases hb with hb | ⟨q2, hb, hb2⟩
    · rw [hb.1]; rfl
    · subst hb
      show sgS (s q2) = 0
      rw [hb2]; rfl
  have hc0 : ∀ s', agB s s' m → hcN s' m = 0 := fun s' hg => by
    rcases hb with hb | ⟨q2, hb, hb2⟩
    · rw [hb.1]; rfl
    · subst hb
      show (if s' q2 = 40 then 0 else _) = 0
      rw [if_pos ((hg q2 (Nat.lt_succ_self _)).trans hb2)]
  have hwh : ¬ (m = 0 ∧ wh = 0) := by
    rcases hb with hb | ⟨q2, hb, hb2⟩ <;> omega
  clear hb
  have hS := rcSm hA (p := p) (K := K) ht (by omega) hwh
  have hE := exSm_end h hA1 hA2 hp
  unfold exCm exC1
  by_cases e : (exSm c A p).1 = 1 ∧ (c (exSm c A p).2.1 = 60 ∨ c (exSm c A p).2.1 = 61)
  · rw [if_pos e]
    have hl := eTx_lt h (p := (exSm c A p).2.1) (by omega)
    have hs1 : sgS (c (exSm c A p).2.1) = 1 := by
      rcases e.2 with q | q <;> (rw [q]; rfl)
    rcases hS with ⟨_, m1, s', K1, hg, hd, hk, hr⟩ | hS
    · have hm := drM_le (s := s') (l := 2) (m := m1)
      have z := drM_cmp (s := s') (show 1 ≤ 2 by decide) (m := m1)
      have z2 := drM_no (s := s') (l := 1) (m := m) (by rw [agB_tp hg]; omega)
      rw [hd, z2.1, z2.2, List.append_nil] at z
      have hst : rcS c wh (1, 0, (exSm c A p).2.1, m1, s', w, K1) = (1, 1, (exSm c A p).2.1 + 1, m + 1, upF s' m (c (exSm c A p).2.1), w, K ++ (exSm c A p).2.2) := by
        rw [rcS_g]
        unfold rcP
        rw [if_neg (by decide), if_neg (by omega), if_pos (Or.inr ⟨hs1, (hcN_dr (Nat.le_refl 2)).trans (by rw [hd]; exact hc0 s' hg)⟩), hs1, z.1, z.2, hk]
      have hr2 := itR_t hr (itR_1 hst)
      have hS2 := rcSm hA (p := (exSm c A p).2.1 + 1) (m := m + 1) (s := upF s' m (c (exSm c A p).2.1)) (K := K ++ (exSm c A p).2.2) (fun q hq => by
        have e9 : q = m := by omega
        subst e9
        unfold upF
        rw [if_pos rfl]
        omega) (by show sgS (upF s' m (c (exSm c A p).2.1) m) < 2; unfold upF; rw [if_pos rfl, hs1]; decide) (by omega)
      have hE2 := exSm_end h hA1 hA2 hl
      rcases hS2 with ⟨g1, m2, s2, K2, gg, gd, gk, gr⟩ | ⟨g1, y, hy, gr⟩
      · have e5 : exO c (exSm c A p) (exSm c A ((exSm c A p).2.1 + 1)) = (1, (exSm c A ((exSm c A p).2.1 + 1)).2.1, (exSm c A p).2.2 ++ (exSm c A ((exSm c A p).2.1 + 1)).2.2 ++ [(c (exSm c A p).2.1, 0)]) := if_pos g1
        rw [e5]
        have q := agB_up gg
        have q2 := agB_t hg q.1
        have y := drM_cmp (s := s2) (show 1 ≤ 2 by decide) (m := m2)
        have y2 := drM_no (s := s2) (l := 1) (m := m) (by rw [agB_tp q2]; omega)
        have y3 := drM_y (s := s2) (l := 1) (m := m) (by rw [q.2, hs1]; exact Nat.le_refl 1)
        rw [gd] at y
        refine Or.inl ⟨rfl, hE2 g1, m2, s2, K2, q2, y.1.trans (y3.1.trans y2.1), ?_, fun _ => ?_, itR_t hr2 gr⟩
        · rw [y.2, ← List.append_assoc, gk, y3.2, y2.2, q.2]
          simp [List.append_assoc]
        · rw [hcN_dr (Nat.le_refl 2), gd]
          show (if s2 m = 40 then 0 else if sgS (s2 m) = 1 then 1 else _) = 1
          rw [q.2, if_neg (by omega), if_pos hs1]
      · have e5 : exO c (exSm c A p) (exSm c A ((exSm c A p).2.1 + 1)) = exSm c A ((exSm c A p).2.1 + 1) := if_neg (by omega)
        rw [e5]
        exact Or.inr ⟨g1, y, hy, itR_t hr2 gr⟩
    · exact absurd hS.1 (by omega)
  · rw [if_neg e]
    rcases hS with ⟨h1, m1, s', K1, hg, hd, hk, hr⟩ | hS
    · have z := drM_cmp (s := s') (show 1 ≤ 2 by decide) (m := m1)
      have z2 := drM_no (s := s') (l := 1) (m := m) (by rw [agB_tp hg]; omega)
      rw [hd, z2.1, z2.2, List.append_nil] at z
      refine Or.inl ⟨h1, hE h1, m1, s', K1, hg, z.1, by rw [z.2]; exact hk, fun q => ?_, hr⟩
      exfalso
      refine e ⟨h1, ?_⟩
      unfold sgS at q
      by_cases e1 : c (exSm c A p).2.1 = 42 ∨ c (exSm c A p).2.1 = 47 ∨ c (exSm c A p).2.1 = 37
      · rw [if_pos e1] at q; exact absurd q (by decide)
      · rw [if_neg e1] at q
        by_cases e2 : c (exSm c A p).2.1 = 43 ∨ c (exSm c A p).2.1 = 45
        · rw [if_pos e2] at q; exact absurd q (by decide)
        · rw [if_neg e2] at q
          by_cases e3 : c (exSm c A p).2.1 = 60 ∨ c (exSm c A p).2.1 = 61
          · exact e3
          · rw [if_neg e3] at q; exact absurd q (by decide)
    · exact Or.inr hS
theorem exAt_out {n : Nat} {c : Nat → Int} (h : eTx n c) {r p : Nat} (hp : n < p) : (exAt c r p).1 = 0 := by
  have e : c p = -1 := h.2.1 p (by omega)
  rw [exAt_B (by omega), exB_f (by omega) (by omega) (by omega)]
  rfl
theorem rcA_pa {n : Nat} {c : Nat → Int} (h : eTx n c) {wh p m w : Nat} {s : Nat → Int} {K : CdL} {x : ExR} (hc : c p = 40) (hw : ¬ w = 3) (hF : rcF c wh x (p + 1) (m + 1) (upF s m 40) (w + 1) K) : rcA c wh (exPa c x) p m s w K := by
  have hst := rcS_n (wh := wh) (m := m) (s := s) (K := K) (p := p) (Or.inr (Or.inl hc)) hw
  rw [if_neg (by omega), hc] at hst
  rcases hF with ⟨h1, h2, m1, s', K1, hg, hd, hk, hcn, hr⟩ | ⟨h1, z, hz, hr⟩
  · have q := agB_up hg
    have hm := drM_le (s := s') (l := 1) (m := m1)
    have hp1 : hpN s' m1 = 1 := by
      rw [hpN_dr (Nat.le_refl 1), hd]
      show (if s' m = 40 then 1 else _) = 1
      rw [if_pos q.2]
    have e : exPa c x = if c x.2.1 = 41 then (1, x.2.1 + 1, x.2.2) else exF x.2.1 := if_pos h1
    rw [e]
    have hn1 : ¬ (2 ≤ sgS (c x.2.1) ∨ (sgS (c x.2.1) = 1 ∧ hcN s' m1 = 0)) := fun g => by
      rcases g with g | g
      · omega
      · have := hcn g.1; omega
    by_cases q1 : c x.2.1 = 41
    · rw [if_pos q1]
      refine Or.inl ⟨rfl, s', q.1, itR_t (itR_1 hst) (itR_t hr (itR_1 ?_))⟩
      rw [rcS_g]
      unfold rcP
      rw [if_neg (by decide), if_neg (by omega), if_neg hn1, if_pos ⟨q1, hp1⟩, hd, hk]
      rfl
    · rw [if_neg q1]
      refine Or.inr ⟨rfl, (0, x.2.1, m1, s', w + 1, K1), rfl, itR_t (itR_1 hst) (itR_t hr (itR_1 ?_))⟩
      rw [rcS_g]
      unfold rcP
      rw [if_neg (by decide), if_neg (by omega), if_neg hn1, if_neg (fun g => q1 g.1), if_pos hp1]
  · have e : exPa c x = x := if_neg (by omega)
    rw [e]
    exact Or.inr ⟨h1, z, hz, itR_t (itR_1 hst) hr⟩
theorem rcAt {n : Nat} {c : Nat → Int} (h : eTx n c) {wh : Nat} : ∀ {r w : Nat}, w + r = 3 → ∀ p m s K, rcA c wh (exAt c r p) p m s w K
  | 0, w, hw, p, m, s, K => rcA_B (Or.inr (by omega))
  | r + 1, w, hw, p, m, s, K => by
    have ih := rcAt h (wh := wh) (r := r) (w := w + 1) (by omega)
    by_cases e1 : c p = 40
    · rw [exAt_p e1]
      exact rcA_pa h e1 (by omega) (rcCm h ih (fun _ hq => exAt_ok h hq) (fun _ hq => exAt_out h hq) (eTx_lt h (by omega)) (Or.inr ⟨m, rfl, if_pos rfl⟩))
    · by_cases e2 : c p = 45
      · rw [exAt_m e2]
        exact rcA_un (Or.inl e2) (by omega) (if_pos e2) (Or.inl rfl) (ih _ _ _ _)
      · by_cases e3 : c p = 39
        · rw [exAt_q e3]
          exact rcA_un (Or.inr (Or.inr (Or.inr e3))) (by omega) ((if_neg e2).trans e3) (Or.inr rfl) (ih _ _ _ _)
        · by_cases e4 : c p = 64
          · rw [exAt_a e4]
            exact rcA_fd e4 (by omega) (ih _ _ _ _)
          · rw [exAt_B ⟨e1, e2, e3, e4⟩]
            exact rcA_B (Or.inl (by omega))
/-- the whole reading: of an expression, of an atom -/
theorem rc_exp {n : Nat} {c : Nat → Int} (h : eTx n c) {p : Nat} (hp : p ≤ n) {s : Nat → Int} : ((exEx c 3 p).1 = 1 ∧ ∃ s', itR (rcS c 1) (1, 1, p, 0, s, 0, []) (2, 0, (exEx c 3 p).2.1, 0, s', 0, (exEx c 3 p).2.2)) ∨ ((exEx c 3 p).1 = 0 ∧ ∃ z : Nat × Nat × Nat × (Nat → Int) × Nat × CdL, z.2.1 = (exEx c 3 p).2.1 ∧ itR (rcS c 1) (1, 1, p, 0, s, 0, []) (0, z)) := by
  rcases rcCm h (rcAt h (wh := 1) (r := 3) (w := 0) rfl) (fun _ hq => exAt_ok h hq) (fun _ hq => exAt_out h hq) hp (m := 0) (s := s) (K := []) (Or.inl ⟨rfl, rfl⟩) with ⟨h1, h2, m1, s', K1, hg, hd, hk, hcn, hr⟩ | h1
  · refine Or.inl ⟨h1, s', itR_t hr (itR_1 ?_)⟩
    have hp0 : hpN s' m1 = 0 := by
      rw [hpN_dr (Nat.le_refl 1), hd]
      rfl
    have hn1 : ¬ (2 ≤ sgS (c (exEx c 3 p).2.1) ∨ (sgS (c (exEx c 3 p).2.1) = 1 ∧ hcN s' m1 = 0)) := fun g => by
      rcases g with g | g
      · have h3 : sgS (c (exEx c 3 p).2.1) ≤ 1 := h2
        omega
      · have := hcn g.1; omega
    show rcS c 1 (1, 0, (exEx c 3 p).2.1, m1, s', 0, K1) = _
    rw [rcS_g]
    unfold rcP
    rw [if_neg (by decide), if_neg (by omega), if_neg hn1, if_neg (by omega), if_neg (by omega), hd, hk]
    rfl
  · exact Or.inr h1
theorem rc_atm {n : Nat} {c : Nat → Int} (h : eTx n c) {p : Nat} {s : Nat → Int} : ((exAt c 3 p).1 = 1 ∧ ∃ s', itR (rcS c 0) (1, 1, p, 0, s, 0, []) (2, 0, (exAt c 3 p).2.1, 0, s', 0, (exAt c 3 p).2.2)) ∨ ((exAt c 3 p).1 = 0 ∧ ∃ z : Nat × Nat × Nat × (Nat → Int) × Nat × CdL, z.2.1 = (exAt c 3 p).2.1 ∧ itR (rcS c 0) (1, 1, p, 0, s, 0, []) (0, z)) := by
  rcases rcAt h (wh := 0) (r := 3) (w := 0) rfl p 0 s [] with ⟨h1, s', hg, hr⟩ | h1
  · refine Or.inl ⟨h1, s', itR_t hr (itR_1 ?_)⟩
    show rcS c 0 (1, 0, (exAt c 3 p).2.1, 0, s', 0, [] ++ (exAt c 3 p).2.2) = _
    rw [rcS_g]
    unfold rcP
    rw [if_neg (by decide), if_pos ⟨rfl, rfl⟩]
    rfl
  · exact Or.inr h1
