/-! fe: SCRIPTS: the reference's reader of an expression, as a machine of steps (1 going, 0 wrong, 2 done; an atom is wanted; the place; signs: how many and which; within; codes) -/
abbrev RcT : Type := Nat × Nat × Nat × Nat × (Nat → Int) × Nat × CdL
def sgS (u : Int) : Nat := if u = 42 ∨ u = 47 ∨ u = 37 then 3 else if u = 43 ∨ u = 45 then 2 else if u = 60 ∨ u = 61 then 1 else 0
def drM (s : Nat → Int) (l : Nat) : Nat → Nat
  | 0 => 0
  | m + 1 => if l ≤ sgS (s m) then drM s l m else m + 1
def drK (s : Nat → Int) (l : Nat) : Nat → CdL
  | 0 => []
  | m + 1 => if l ≤ sgS (s m) then (s m, 0) :: drK s l m else []
def rcC (c : Nat → Int) (s : Nat → Int) : Nat → Nat → Nat → CdL → RcT
  | 0, a, w, K => (1, 0, a, 0, s, w, K)
  | m + 1, a, w, K => if s m = 95 ∨ s m = 39 then rcC c s m a (w - 1) (K ++ [(s m, 0)]) else if s m = 64 then (if c a = 58 then (if 48 ≤ c (a + 1) ∧ c (a + 1) ≤ 53 then rcC c s m (a + 2) (w - 1) (K ++ [(64, c (a + 1) - 48)]) else (0, 0, a + 1, m + 1, s, w, K)) else (0, 0, a, m + 1, s, w, K)) else (1, 0, a, m + 1, s, w, K)
def hpN (s : Nat → Int) : Nat → Nat
  | 0 => 0
  | m + 1 => if s m = 40 then 1 else hpN s m
def hcN (s : Nat → Int) : Nat → Nat
  | 0 => 0
  | m + 1 => if s m = 40 then 0 else if sgS (s m) = 1 then 1 else hcN s m
def rcP (c : Nat → Int) (wh v a m : Nat) (s : Nat → Int) (w : Nat) (K : CdL) : RcT :=
  if v = 1 then (if c a = 45 ∨ c a = 40 ∨ c a = 64 ∨ c a = 39 then (if w = 3 then (0, 1, a, m, s, w, K) else (1, 1, a + 1, m + 1, upF s m (if c a = 45 then 95 else c a), w + 1, K)) else if (exB c a).1 = 1 then rcC c s m (exB c a).2.1 w (K ++ (exB c a).2.2) else (0, 0, (exB c a).2.1, m, s, w, K))
  else if m = 0 ∧ wh = 0 then (2, 0, a, m, s, w, K)
  else if 2 ≤ sgS (c a) ∨ (sgS (c a) = 1 ∧ hcN s m = 0) then (1, 1, a + 1, drM s (sgS (c a)) m + 1, upF s (drM s (sgS (c a)) m) (c a), w, K ++ drK s (sgS (c a)) m)
  else if c a = 41 ∧ hpN s m = 1 then rcC c s (drM s 1 m - 1) (a + 1) (w - 1) (K ++ drK s 1 m)
  else if hpN s m = 1 then (0, 0, a, m, s, w, K)
  else (2, 0, a, drM s 1 m, s, w, K ++ drK s 1 m)
def rcS (c : Nat → Int) (wh : Nat) (x : RcT) : RcT := if x.1 = 1 then rcP c wh x.2.1 x.2.2.1 x.2.2.2.1 x.2.2.2.2.1 x.2.2.2.2.2.1 x.2.2.2.2.2.2 else x
def itN {α : Type} (f : α → α) : Nat → α → α
  | 0, x => x
  | n + 1, x => itN f n (f x)
theorem itN_add {α : Type} {f : α → α} : ∀ {a b : Nat} {x : α}, itN f (a + b) x = itN f b (itN f a x)
  | 0, b, x => by rw [Nat.zero_add]; rfl
  | a + 1, b, x => by
    rw [show a + 1 + b = (a + b) + 1 by omega]
    exact itN_add (a := a) (b := b) (x := f x)
theorem itN_s {α : Type} {f : α → α} {n : Nat} {x : α} : itN f (n + 1) x = f (itN f n x) := itN_add (a := n) (b := 1)
theorem itN_fix {α : Type} {f : α → α} {y : α} (h : f y = y) : ∀ {n : Nat}, itN f n y = y
  | 0 => rfl
  | n + 1 => by
    show itN f n (f y) = y
    rw [h]
    exact itN_fix h
theorem itN_det {α : Type} {f : α → α} {x y z : α} {a b : Nat} (hy : itN f a x = y) (hz : itN f b x = z) (fy : f y = y) (fz : f z = z) : y = z := by
  have e1 : itN f (a + b) x = y := by rw [itN_add, hy]; exact itN_fix fy
  have e2 : itN f (b + a) x = z := by rw [itN_add, hz]; exact itN_fix fz
  rw [Nat.add_comm] at e2
  exact e1.symm.trans e2
def itR {α : Type} (f : α → α) (x y : α) : Prop := ∃ n, itN f n x = y
theorem itR_r {α : Type} {f : α → α} {x : α} : itR f x x := ⟨0, rfl⟩
theorem itR_1 {α : Type} {f : α → α} {x y : α} (h : f x = y) : itR f x y := ⟨1, h⟩
theorem itR_t {α : Type} {f : α → α} {x y z : α} (h : itR f x y) (g : itR f y z) : itR f x z := by
  obtain ⟨a, ha⟩ := h
  obtain ⟨b, hb⟩ := g
  exact ⟨a + b, by rw [itN_add, ha]; exact hb⟩
theorem rcS_g {c : Nat → Int} {wh v a m w : Nat} {s : Nat → Int} {K : CdL} : rcS c wh (1, v, a, m, s, w, K) = rcP c wh v a m s w K := if_pos rfl
theorem rcS_f {c : Nat → Int} {wh : Nat} {x : RcT} (h : x.1 ≠ 1) : rcS c wh x = x := if_neg h
theorem drM_le {s : Nat → Int} {l : Nat} : ∀ {m : Nat}, drM s l m ≤ m
  | 0 => Nat.le_refl 0
  | m + 1 => by
    show (if l ≤ sgS (s m) then drM s l m else m + 1) ≤ m + 1
    by_cases e : l ≤ sgS (s m)
    · rw [if_pos e]; exact Nat.le_succ_of_le drM_le
    · rw [if_neg e]; exact Nat.le_refl _
def tpS (s : Nat → Int) : Nat → Nat
  | 0 => 0
  | m + 1 => sgS (s m)
theorem drM_tp {s : Nat → Int} {l : Nat} (hl : 1 ≤ l) : ∀ {m : Nat}, tpS s (drM s l m) < l
  | 0 => hl
  | m + 1 => by
    show tpS s (if l ≤ sgS (s m) then drM s l m else m + 1) < l
    by_cases e : l ≤ sgS (s m)
    · rw [if_pos e]; exact drM_tp hl
    · rw [if_neg e]; exact Nat.lt_of_not_le e
theorem drM_no {s : Nat → Int} {l : Nat} : ∀ {m : Nat}, tpS s m < l → drM s l m = m ∧ drK s l m = []
  | 0, _ => ⟨rfl, rfl⟩
  | m + 1, h => ⟨if_neg (Nat.not_le_of_lt h), if_neg (Nat.not_le_of_lt h)⟩
theorem drM_y {s : Nat → Int} {l m : Nat} (h : l ≤ sgS (s m)) : drM s l (m + 1) = drM s l m ∧ drK s l (m + 1) = (s m, 0) :: drK s l m := ⟨if_pos h, if_pos h⟩
theorem drM_cmp {s : Nat → Int} {l g : Nat} (hg : g ≤ l) : ∀ {m : Nat}, drM s g m = drM s g (drM s l m) ∧ drK s g m = drK s l m ++ drK s g (drM s l m)
  | 0 => ⟨rfl, rfl⟩
  | m + 1 => by
    by_cases e : l ≤ sgS (s m)
    · have w := drM_cmp (s := s) hg (m := m)
      rw [(drM_y e).1, (drM_y e).2, (drM_y (Nat.le_trans hg e)).1, (drM_y (Nat.le_trans hg e)).2]
      exact ⟨w.1, by rw [w.2]; rfl⟩
    · have z : drM s l (m + 1) = m + 1 := if_neg e
      have z2 : drK s l (m + 1) = [] := if_neg e
      rw [z, z2]
      exact ⟨rfl, rfl⟩
theorem hpN_dr {s : Nat → Int} {l : Nat} (hl : 1 ≤ l) : ∀ {m : Nat}, hpN s m = hpN s (drM s l m)
  | 0 => rfl
  | m + 1 => by
    by_cases e : l ≤ sgS (s m)
    · rw [(drM_y e).1, ← hpN_dr hl (m := m)]
      refine if_neg (fun q => ?_)
      rw [q] at e
      exact absurd (Nat.le_trans hl e) (by decide)
    · have z : drM s l (m + 1) = m + 1 := if_neg e
      rw [z]
theorem hcN_dr {s : Nat → Int} {l : Nat} (hl : 2 ≤ l) : ∀ {m : Nat}, hcN s m = hcN s (drM s l m)
  | 0 => rfl
  | m + 1 => by
    by_cases e : l ≤ sgS (s m)
    · rw [(drM_y e).1, ← hcN_dr hl (m := m)]
      refine (if_neg (fun q => ?_)).trans (if_neg (by omega))
      rw [q] at e
      exact absurd (Nat.le_trans hl e) (by decide)
    · have z : drM s l (m + 1) = m + 1 := if_neg e
      rw [z]
def agB (s s' : Nat → Int) (m : Nat) : Prop := ∀ i, i < m → s' i = s i
theorem agB_tp {s s' : Nat → Int} : ∀ {m : Nat}, agB s s' m → tpS s' m = tpS s m
  | 0, _ => rfl
  | m + 1, h => congrArg sgS (h m (Nat.lt_succ_self m))
theorem agB_up {s s' : Nat → Int} {m : Nat} {u : Int} (h : agB (upF s m u) s' (m + 1)) : agB s s' m ∧ s' m = u := by
  refine ⟨fun i hi => ?_, ?_⟩
  · have w := h i (by omega)
    unfold upF at w
    rw [if_neg (by omega)] at w
    exact w
  · have w := h m (by omega)
    unfold upF at w
    rw [if_pos rfl] at w
    exact w
theorem agB_t {s s' t : Nat → Int} {m : Nat} (h : agB s s' m) (g : agB s' t m) : agB s t m := fun i hi => (g i hi).trans (h i hi)
/-- no sign that waits for an atom is the latest -/
def tpN (s : Nat → Int) (m : Nat) : Prop := ∀ q, m = q + 1 → s q ≠ 95 ∧ s q ≠ 39 ∧ s q ≠ 64
theorem tpN_ag {s s' : Nat → Int} {m : Nat} (h : tpN s m) (g : agB s s' m) : tpN s' m := fun q hq => by
  have w := h q hq
  rw [← g q (by omega)] at w
  exact w
theorem rcC_top {c s : Nat → Int} {m a w : Nat} {K : CdL} (h : tpN s m) : rcC c s m a w K = (1, 0, a, m, s, w, K) := by
  cases m with
  | zero => rfl
  | succ m =>
    have q := h m rfl
    show (if s m = 95 ∨ s m = 39 then _ else if s m = 64 then _ else _) = _
    rw [if_neg (by omega), if_neg (by omega)]
def rcA (c : Nat → Int) (wh : Nat) (x : ExR) (p m : Nat) (s : Nat → Int) (w : Nat) (K : CdL) : Prop := (x.1 = 1 ∧ ∃ s', agB s s' m ∧ itR (rcS c wh) (1, 1, p, m, s, w, K) (rcC c s' m x.2.1 w (K ++ x.2.2))) ∨ (x.1 = 0 ∧ ∃ z : Nat × Nat × Nat × (Nat → Int) × Nat × CdL, z.2.1 = x.2.1 ∧ itR (rcS c wh) (1, 1, p, m, s, w, K) (0, z))
def rcE (l : Nat) (c : Nat → Int) (wh : Nat) (x : ExR) (p m : Nat) (s : Nat → Int) (w : Nat) (K : CdL) : Prop := (x.1 = 1 ∧ ∃ m1 s' K1, agB s s' m ∧ drM s' l m1 = m ∧ K1 ++ drK s' l m1 = K ++ x.2.2 ∧ itR (rcS c wh) (1, 1, p, m, s, w, K) (1, 0, x.2.1, m1, s', w, K1)) ∨ (x.1 = 0 ∧ ∃ z : Nat × Nat × Nat × (Nat → Int) × Nat × CdL, z.2.1 = x.2.1 ∧ itR (rcS c wh) (1, 1, p, m, s, w, K) (0, z))
theorem sgS_3 {u : Int} : sgS u ≤ 3 := by
  unfold sgS
  by_cases e1 : u = 42 ∨ u = 47 ∨ u = 37
  · rw [if_pos e1]; exact Nat.le_refl 3
  · rw [if_neg e1]
    by_cases e2 : u = 43 ∨ u = 45
    · rw [if_pos e2]; decide
    · rw [if_neg e2]
      by_cases e3 : u = 60 ∨ u = 61
      · rw [if_pos e3]; decide
      · rw [if_neg e3]; decide
theorem tpS_3 {s : Nat → Int} : ∀ {m : Nat}, tpS s m ≤ 3
  | 0 => Nat.zero_le 3
  | _ + 1 => sgS_3
theorem rcA_E {c : Nat → Int} {wh p m w : Nat} {s : Nat → Int} {K : CdL} {x : ExR} (h : rcA c wh x p m s w K) (ht : tpN s m) : rcE 4 c wh x p m s w K := by
  rcases h with ⟨h1, s', hg, hr⟩ | h
  · refine Or.inl ⟨h1, m, s', K ++ x.2.2, hg, (drM_no ?_).1, ?_, ?_⟩
    · have := tpS_3 (s := s') (m := m); omega
    · rw [(drM_no (by have := tpS_3 (s := s') (m := m); omega)).2, List.append_nil]
    · rw [rcC_top (tpN_ag ht hg)] at hr
      exact hr
  · exact Or.inr h
theorem rcE_dn {l : Nat} {c : Nat → Int} {wh p m w : Nat} {s : Nat → Int} {K : CdL} {x : ExR} (h : rcE (l + 1) c wh x p m s w K) (ht : tpS s m < l) : rcE l c wh x p m s w K := by
  rcases h with ⟨h1, m1, s', K1, hg, hd, hk, hr⟩ | h
  · have z := drM_cmp (s := s') (show l ≤ l + 1 by omega) (m := m1)
    have z2 := drM_no (s := s') (l := l) (m := m) (by rw [agB_tp hg]; exact ht)
    rw [hd] at z
    refine Or.inl ⟨h1, m1, s', K1, hg, z.1.trans z2.1, ?_, hr⟩
    rw [z.2, z2.2, List.append_nil]
    exact hk
  · exact Or.inr h
/-- a sign behind, of strength l, and what is behind it -/
theorem rcE_op {l : Nat} (hl : 2 ≤ l) {c : Nat → Int} {wh p m w : Nat} {s : Nat → Int} {K : CdL} {x y : ExR} (h : rcE l c wh x p m s w K) (h1 : x.1 = 1) (hs : sgS (c x.2.1) = l) (ht : tpS s m < l) (hw : ¬ (m = 0 ∧ wh = 0)) (hA : ∀ s' : Nat → Int, rcE (l + 1) c wh y (x.2.1 + 1) (m + 1) (upF s' m (c x.2.1)) w (K ++ x.2.2)) : rcE l c wh (exO c x y) p m s w K := by
  rcases h with ⟨_, m1, s', K1, hg, hd, hk, hr⟩ | h
  · have hm := drM_le (s := s') (l := l) (m := m1)
    have hst : rcS c wh (1, 0, x.2.1, m1, s', w, K1) = (1, 1, x.2.1 + 1, m + 1, upF s' m (c x.2.1), w, K ++ x.2.2) := by
      rw [rcS_g]
      unfold rcP
      rw [if_neg (by decide), if_neg (by omega), if_pos (by omega), hs, hd, hk]
    have hr2 := itR_t hr (itR_1 hst)
    rcases hA s' with ⟨g1, m2, s2, K2, gg, gd, gk, gr⟩ | ⟨g1, z, hz, gr⟩
    · refine Or.inl ⟨?_, ?_⟩
      · unfold exO; rw [if_pos g1]
      · have e : exO c x y = (1, y.2.1, x.2.2 ++ y.2.2 ++ [(c x.2.1, 0)]) := if_pos g1
        rw [e]
        have q := agB_up gg
        have q2 := agB_t hg q.1
        have z := drM_cmp (s := s2) (show l ≤ l + 1 by omega) (m := m2)
        have z2 := drM_no (s := s2) (l := l) (m := m) (by rw [agB_tp q2]; exact ht)
        have z3 := drM_y (s := s2) (l := l) (m := m) (by rw [q.2, hs]; exact Nat.le_refl l)
        rw [gd] at z
        refine ⟨m2, s2, K2, q2, z.1.trans (z3.1.trans z2.1), ?_, itR_t hr2 gr⟩
        rw [z.2, ← List.append_assoc, gk, z3.2, z2.2, q.2]
        simp [List.append_assoc]
    · refine Or.inr ⟨?_, z, ?_, itR_t hr2 gr⟩
      · unfold exO; rw [if_neg (by omega)]; exact g1
      · unfold exO; rw [if_neg (by omega)]; exact hz
  · exact absurd h.1 (by omega)
theorem exLp_rc {l : Nat} (hl : 2 ≤ l) {c : Nat → Int} {wh p m w : Nat} {s : Nat → Int} {K : CdL} {a b d : Int} (ha : sgS a = l ∧ sgS b = l ∧ sgS d = l) {A : Nat → ExR} (ht : tpS s m < l) (hw : ¬ (m = 0 ∧ wh = 0)) (hA : ∀ (p' : Nat) (s' : Nat → Int) (u : Int) (K' : CdL), sgS u = l → rcE (l + 1) c wh (A p') p' (m + 1) (upF s' m u) w K') : ∀ {n : Nat} {x : ExR}, rcE l c wh x p m s w K → rcE l c wh (exLp c a b d A n x) p m s w K
  | 0, x, h => h
  | n + 1, x, h => by
    by_cases e : x.1 = 1 ∧ (c x.2.1 = a ∨ c x.2.1 = b ∨ c x.2.1 = d)
    · rw [exLp_1 e]
      have hs : sgS (c x.2.1) = l := by
        rcases e.2 with q | q | q
        · rw [q]; exact ha.1
        · rw [q]; exact ha.2.1
        · rw [q]; exact ha.2.2
      exact exLp_rc hl ha ht hw hA (rcE_op hl h e.1 hs ht hw (fun s' => hA _ s' _ _ hs))
    · rw [exLp_0 e]
      exact h
/-- the loop ends where no such sign is -/
theorem exLp_fin {n : Nat} {c : Nat → Int} (h : eTx n c) {a b d : Int} (ha : a ≠ -1 ∧ b ≠ -1 ∧ d ≠ -1) {A : Nat → ExR} (hA : ∀ p, p ≤ n → exOk n p (A p)) : ∀ {m : Nat} {x : ExR}, (x.1 = 1 → x.2.1 ≤ n ∧ n < m + x.2.1) → (exLp c a b d A m x).1 = 1 → ¬ (c (exLp c a b d A m x).2.1 = a ∨ c (exLp c a b d A m x).2.1 = b ∨ c (exLp c a b d A m x).2.1 = d)
  | 0, x, hx, h1 => by
    have w := hx h1
    omega
  | m + 1, x, hx, h1 => by
    by_cases e : x.1 = 1 ∧ (c x.2.1 = a ∨ c x.2.1 = b ∨ c x.2.1 = d)
    · rw [exLp_1 e] at h1 ⊢
      refine exLp_fin h ha hA (fun g => ?_) h1
      have hl := eTx_lt h (p := x.2.1) (by omega)
      have w := hA (x.2.1 + 1) hl
      have w2 := hx e.1
      unfold exO at g ⊢
      rcases w with w | w
      · rw [if_pos w.1]
        show (A (x.2.1 + 1)).2.1 ≤ n ∧ n < m + (A (x.2.1 + 1)).2.1
        omega
      · rw [if_neg (by omega)] at g
        omega
    · rw [exLp_0 e] at h1 ⊢
      exact fun q => e ⟨h1, q⟩
theorem exLp_q {c : Nat → Int} {a b d : Int} {A : Nat → ExR} {Q : Int → Prop} (hA : ∀ p, (A p).1 = 1 → Q (c (A p).2.1)) : ∀ {m : Nat} {x : ExR}, (x.1 = 1 → Q (c x.2.1)) → (exLp c a b d A m x).1 = 1 → Q (c (exLp c a b d A m x).2.1)
  | 0, x, hx, h1 => hx h1
  | m + 1, x, hx, h1 => by
    by_cases e : x.1 = 1 ∧ (c x.2.1 = a ∨ c x.2.1 = b ∨ c x.2.1 = d)
    · rw [exLp_1 e] at h1 ⊢
      refine exLp_q hA (fun g => ?_) h1
      unfold exO at g ⊢
      by_cases e2 : (A (x.2.1 + 1)).1 = 1
      · rw [if_pos e2]; exact hA _ e2
      · rw [if_neg e2] at g; exact absurd g e2
    · rw [exLp_0 e] at h1 ⊢
      exact hx h1
