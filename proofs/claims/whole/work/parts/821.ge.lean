/-! ge: SCRIPTS: the class's run against the reference's machine: from an order to an order -/
/-- reached, and C holds all the way -/
def itC {α : Type} (C : α → Prop) (f : α → α) (x y : α) : Prop := ∃ n, itN f n x = y ∧ ∀ k, k < n → C (itN f k x)
theorem itC_r {α : Type} {C : α → Prop} {f : α → α} {x : α} : itC C f x x := ⟨0, rfl, fun k hk => absurd hk (Nat.not_lt_zero k)⟩
theorem itC_1 {α : Type} {C : α → Prop} {f : α → α} {x y : α} (hC : C x) (h : f x = y) : itC C f x y := ⟨1, h, fun k hk => by
  rw [show k = 0 by omega]; exact hC⟩
theorem itC_t {α : Type} {C : α → Prop} {f : α → α} {x y z : α} (h : itC C f x y) (g : itC C f y z) : itC C f x z := by
  obtain ⟨a, ha, ca⟩ := h
  obtain ⟨b, hb, cb⟩ := g
  refine ⟨a + b, by rw [itN_add, ha]; exact hb, fun k hk => ?_⟩
  by_cases e : k < a
  · exact ca k e
  · have w := cb (k - a) (by omega)
    rw [← ha, ← itN_add, show a + (k - a) = k by omega] at w
    exact w
/-- a program: orders, functions, limit, the number of its last order -/
abbrev WkM : Type := (Nat → OrT) × (Nat → Int) × Nat × Nat
def wkC (M : WkM) (x : MsT) : Prop := (0 ≤ x.2.2.2.2.1 ∧ x.2.2.2.2.1 ≤ M.2.2.2) ∧ mVo (M.1 x.2.2.2.2.1.toNat) x
abbrev wkI (M : WkM) (x y : MsT) : Prop := itC (wkC M) (mSt M.1 M.2.1 M.2.2.1) x y
def wkZ (M : WkM) (d cl i : Nat) (s : WkS) (j : Nat) (s' : WkS) : Prop := ∀ (bk : Nat → Int) (hs : List HdT), hs.length ≤ d → ∃ bk' : Nat → Int, (∀ q, q < cl → bk' q = bk q) ∧ ((wkGo s' ∧ wkI M (wkX s i cl bk hs) (wkX s' j cl bk' hs)) ∨ (s'.2.2.1 = 0 ∧ s'.2.2.2.1 ≠ 0 ∧ ∃ (nx : Int) (c2 : Nat), wkI M (wkX s i cl bk hs) (mRa s'.2.2.2.1 s'.2.2.2.2.1 s'.2.2.2.2.2 (wkX s' nx c2 bk' hs))) ∨ (s'.2.2.1 = 1 ∧ ∃ y : MsT, wkI M (wkX s i cl bk hs) y ∧ y.1 = s'.1 ∧ y.2.1 = s'.2.1 ∧ y.2.2.1 = (1, 2) ∧ y.2.2.2.1 = (0, -1, 0)))
section
variable {M : WkM} {d cl i j : Nat} {s s' : WkS}
theorem wkZ_r (h : wkGo s) : wkZ M d cl i s i s := fun bk hs _ => ⟨bk, fun _ _ => rfl, Or.inl ⟨h, itC_r⟩⟩
theorem wkZ_t {k : Nat} {s1 : WkS} (h : wkZ M d cl i s j s1) (g : wkGo s1) (h2 : wkZ M d cl j s1 k s') : wkZ M d cl i s k s' := fun bk hs hl => by
  obtain ⟨bk1, e1, q1⟩ := h bk hs hl
  rcases q1 with q1 | q1 | q1
  · obtain ⟨bk2, e2, q2⟩ := h2 bk1 hs hl
    refine ⟨bk2, fun q hq => (e2 q hq).trans (e1 q hq), ?_⟩
    rcases q2 with q2 | ⟨a, b, nx, c2, q2⟩ | ⟨a, y, q2, r⟩
    · exact Or.inl ⟨q2.1, itC_t q1.2 q2.2⟩
    · exact Or.inr (Or.inl ⟨a, b, nx, c2, itC_t q1.2 q2⟩)
    · exact Or.inr (Or.inr ⟨a, y, itC_t q1.2 q2, r⟩)
  · exact absurd (by rw [g.2]) q1.2.1
  · exact absurd q1.1 (by rw [g.1]; decide)
theorem wkZ_a {k : Nat} (h : wkZ M d cl i s j s') (g : ¬ wkGo s') : wkZ M d cl i s k s' := fun bk hs hl => by
  obtain ⟨bk1, e1, q1⟩ := h bk hs hl
  exact ⟨bk1, e1, q1.elim (fun q => absurd q.1 g) Or.inr⟩
theorem wkZ_d {d' : Nat} (h : wkZ M d' cl i s j s') (hd : d ≤ d') : wkZ M d cl i s j s' := fun bk hs hl => h bk hs (Nat.le_trans hl hd)
/-- either it goes on, or it ends somewhere -/
theorem wkZ_3 (h : wkZ M d cl i s j s') : (wkGo s' ∨ (s'.2.2.1 = 0 ∧ s'.2.2.2.1 ≠ 0) ∨ s'.2.2.1 = 1) := by
  obtain ⟨bk1, e1, q1⟩ := h (fun _ => 0) [] (Nat.zero_le d)
  rcases q1 with q | q | q
  · exact Or.inl q.1
  · exact Or.inr (Or.inl ⟨q.1, q.2.1⟩)
  · exact Or.inr (Or.inr q.1)
theorem wkX_n {ni : Int} {bk : Nat → Int} {hs : List HdT} : (wkX s ni cl bk hs).2.2.2.2.1 = ni := rfl
/-- the step that an order costs -/
def wkO (o : OrT) : Prop := ¬ (o.1 = 20 ∨ o.1 = 17 ∨ o.1 = 19 ∨ o.1 = 8 ∨ o.1 = 10 ∨ o.1 = 11)
theorem wkS_y {bk : Nat → Int} {hs : List HdT} (hc : wkO (M.1 i)) (hl : s.2.1 < M.2.2.1) : mSt M.1 M.2.1 M.2.2.1 (wkX s (i : Int) cl bk hs) = mAc i (M.1 i) M.2.1 (wkX (wkSp s) ((i + 1 : Nat) : Int) cl bk hs) := by
  rw [mSt_y (x := wkX s (i : Int) cl bk hs) (show ¬ (0 : Nat) = 1 by decide) (wkX_n (s := s) (cl := cl) (bk := bk) (hs := hs)) hc hl]
  rfl
theorem wkC_1 {bk : Nat → Int} {hs : List HdT} (hi : i ≤ M.2.2.2) (h : mVo (M.1 i) (wkX s (i : Int) cl bk hs)) : wkC M (wkX s (i : Int) cl bk hs) := ⟨⟨by rw [wkX_n]; omega, by rw [wkX_n]; omega⟩, by rw [wkX_n, show ((i : Int)).toNat = i by omega]; exact h⟩
/-- none left -/
theorem wkZ_n (hc : wkO (M.1 i)) (hi : i ≤ M.2.2.2) (hV : ∀ hs : List HdT, hs.length ≤ d → ∀ bk, mVo (M.1 i) (wkX s (i : Int) cl bk hs)) (hl : s.2.1 = M.2.2.1) : wkZ M d cl i s j (wkSt s) := fun bk hs hd => ⟨bk, fun _ _ => rfl, Or.inr (Or.inr ⟨rfl, _, itC_1 (wkC_1 hi (hV hs hd bk)) (mSt_n (x := wkX s (i : Int) cl bk hs) (show ¬ (0 : Nat) = 1 by decide) wkX_n hc hl), rfl, rfl, rfl, rfl⟩)⟩
/-- a statement that acts -/
theorem wkZ_s {s2 : WkS} (hc : wkO (M.1 i)) (hi : i ≤ M.2.2.2) (hV : ∀ hs : List HdT, hs.length ≤ d → ∀ bk, mVo (M.1 i) (wkX s (i : Int) cl bk hs)) (hl : s.2.1 < M.2.2.1) (h3 : wkGo s2 ∨ (s2.2.2.1 = 0 ∧ s2.2.2.2.1 ≠ 0)) (hA : ∀ bk hs, mAc i (M.1 i) M.2.1 (wkX (wkSp s) ((i + 1 : Nat) : Int) cl bk hs) = wkR s2 ((i + 1 : Nat) : Int) cl bk hs) : wkZ M d cl i s (i + 1) s2 := fun bk hs hd => by
  refine ⟨bk, fun _ _ => rfl, ?_⟩
  have w := itC_1 (wkC_1 hi (hV hs hd bk)) ((wkS_y (cl := cl) (bk := bk) (hs := hs) hc hl).trans (hA bk hs))
  rcases h3 with g | g
  · rw [wkR_g g] at w
    exact Or.inl ⟨g, w⟩
  · refine Or.inr (Or.inl ⟨g.1, g.2, ((i + 1 : Nat) : Int), cl, ?_⟩)
    have e : wkR s2 ((i + 1 : Nat) : Int) cl bk hs = mRa s2.2.2.2.1 s2.2.2.2.2.1 s2.2.2.2.2.2 (wkX s2 ((i + 1 : Nat) : Int) cl bk hs) := if_neg g.2
    rw [e] at w
    exact w
theorem mVo_s {o : OrT} {x : MsT} (h : o.1 = 3 ∨ o.1 = 4 ∨ o.1 = 5 ∨ o.1 = 6 ∨ o.1 = 12 ∨ o.1 = 13 ∨ o.1 = 14 ∨ o.1 = 15 ∨ o.1 = 16 ∨ o.1 = 17 ∨ o.1 = 20) : mVo o x := ⟨by omega, fun q => by omega, fun q => by omega, fun q => by omega, fun q => by omega, fun q => by omega⟩
/-- a jump -/
theorem wkZ_g {k : Nat} (hg : wkGo s) (h : (M.1 i).1 = 17) (hk : (M.1 i).2.2.2.2.2 = (k : Int)) (hi : i ≤ M.2.2.2) : wkZ M d cl i s k s := fun bk hs _ => ⟨bk, fun _ _ => rfl, Or.inl ⟨hg, itC_1 (wkC_1 hi (mVo_s (by omega))) ((mSt_17 (x := wkX s (i : Int) cl bk hs) (show ¬ (0 : Nat) = 1 by decide) wkX_n h).trans (by rw [hk]; rfl))⟩⟩
/-- a choice, or a loop's head -/
theorem wkZ_if_t (hg : wkGo s) (h : (M.1 i).1 = 5 ∨ (M.1 i).1 = 6) (hi : i ≤ M.2.2.2) (hl : s.2.1 < M.2.2.1) (hf : evF s.1.1 (M.1 i).2.2.2.2.1 = 0) (hv : evV s.1.1 (M.1 i).2.2.2.2.1 ≠ 0) : wkZ M d cl i s (i + 1) (wkSp s) := wkZ_s (s2 := wkSp s) (by unfold wkO; omega) hi (fun _ _ _ => mVo_s (by omega)) hl (Or.inl hg) (fun bk hs => by
  rw [mAw_5 h, wkR_g (wkGo_sp hg)]
  exact (if_neg (fun q => q hf)).trans (if_neg hv))
theorem wkZ_if_f (hg : wkGo s) (h : (M.1 i).1 = 5 ∨ (M.1 i).1 = 6) (hi : i ≤ M.2.2.2) (hl : s.2.1 < M.2.2.1) (hf : ¬ evF s.1.1 (M.1 i).2.2.2.2.1 = 0) : wkZ M d cl i s j (wkF (wkSp s) (evF s.1.1 (M.1 i).2.2.2.2.1 : Nat) (M.1 i).2.1 0) := wkZ_a (j := i + 1) (wkZ_s (by unfold wkO; omega) hi (fun _ _ _ => mVo_s (by omega)) hl (Or.inr ⟨hg.1, wkN hf⟩) (fun bk hs => by
  rw [mAw_5 h, wkR_f (wkN hf)]
  exact if_pos hf)) (fun q => by have q2 := q.2; injection q2 with q3 _; exact wkN hf q3)
theorem wkZ_if_e {k : Nat} (hg : wkGo s) (h : (M.1 i).1 = 5 ∨ (M.1 i).1 = 6) (hi : i ≤ M.2.2.2) (hl : s.2.1 < M.2.2.1) (hf : evF s.1.1 (M.1 i).2.2.2.2.1 = 0) (hv : evV s.1.1 (M.1 i).2.2.2.2.1 = 0) (hk : (M.1 i).2.2.2.2.2 = (k : Int)) : wkZ M d cl i s k (wkSp s) := fun bk hs hd => by
  refine ⟨bk, fun _ _ => rfl, Or.inl ⟨wkGo_sp hg, itC_1 (wkC_1 hi (mVo_s (by omega))) ((wkS_y (by unfold wkO; omega) hl).trans ?_)⟩⟩
  rw [mAw_5 h]
  refine (if_neg (fun q => q hf)).trans ((if_pos hv).trans ?_)
  rw [hk]
  rfl
/-- a call -/
theorem wkZ_c6 {p : Int} (hg : wkGo s) (h : (M.1 i).1 = 18) (hp : (M.1 i).2.1 = p) (hf : 0 ≤ (M.1 i).2.2.1 ∧ (M.1 i).2.2.1 < 26) (hi : i ≤ M.2.2.2) (hl : s.2.1 < M.2.2.1) (hu : M.2.1 (M.1 i).2.2.1.toNat = -1) : wkZ M d cl i s j (wkF (wkSp s) 6 p 0) := wkZ_a (j := i + 1) (wkZ_s (by unfold wkO; omega) hi (fun _ _ _ => ⟨by omega, fun _ => hf, fun q => by omega, fun q => by omega, fun q => by omega, fun q => by omega⟩) hl (Or.inr ⟨hg.1, (by decide : (6 : Int) ≠ 0)⟩) (fun bk hs => by
  rw [mAw_18 h, wkR_f (by decide), hp]
  exact if_pos hu)) (fun q => by have q2 := q.2; injection q2 with q3 _; exact absurd (show (6 : Int) = 0 from q3) (by decide))
theorem wkZ_c5 {p : Int} (hg : wkGo s) (h : (M.1 i).1 = 18) (hp : (M.1 i).2.1 = p) (hf : 0 ≤ (M.1 i).2.2.1 ∧ (M.1 i).2.2.1 < 26) (hi : i ≤ M.2.2.2) (hl : s.2.1 < M.2.2.1) (hu : ¬ M.2.1 (M.1 i).2.2.1.toNat = -1) (hcl : cl = 2) : wkZ M d cl i s j (wkF (wkSp s) 5 p 0) := wkZ_a (j := i + 1) (wkZ_s (by unfold wkO; omega) hi (fun _ _ _ => ⟨by omega, fun _ => hf, fun q => by omega, fun q => by omega, fun q => by omega, fun q => by omega⟩) hl (Or.inr ⟨hg.1, (by decide : (5 : Int) ≠ 0)⟩) (fun bk hs => by
  rw [mAw_18 h, wkR_f (by decide), hp]
  exact (if_neg hu).trans (if_pos hcl))) (fun q => by have q2 := q.2; injection q2 with q3 _; exact absurd (show (5 : Int) = 0 from q3) (by decide))
theorem upF_lt {f : Nat → Int} {c q : Nat} {v : Int} (h : q < c) : upF f c v q = f q := if_neg (by omega)
theorem wkZ_c {k j1 : Nat} {s1 : WkS} (hg : wkGo s) (h : (M.1 i).1 = 18) (hf : 0 ≤ (M.1 i).2.2.1 ∧ (M.1 i).2.2.1 < 26) (hi : i ≤ M.2.2.2) (hl : s.2.1 < M.2.2.1) (hu : M.2.1 (M.1 i).2.2.1.toNat = (k : Int)) (hcl : cl < 2) (hB : wkZ M (d + 1) (cl + 1) k (wkSp s) j1 s1) (hr : (M.1 j1).1 = 19) (hj : j1 ≤ M.2.2.2) : wkZ M d cl i s (i + 1) s1 := fun bk hs hd => by
  have hV : mVo (M.1 i) (wkX s (i : Int) cl bk hs) := ⟨by omega, fun _ => hf, fun q => by omega, fun q => by omega, fun q => by omega, fun q => by omega⟩
  have w := itC_1 (wkC_1 hi hV) (wkS_y (M := M) (cl := cl) (bk := bk) (hs := hs) (s := s) (i := i) (by unfold wkO; omega) hl)
  have e : mAc i (M.1 i) M.2.1 (wkX (wkSp s) ((i + 1 : Nat) : Int) cl bk hs) = wkX (wkSp s) (k : Int) (cl + 1) (upF bk cl ((i + 1 : Nat) : Int)) hs := by
    rw [mAw_18 h, hu]
    refine (if_neg (by omega)).trans ((if_neg (show ¬ cl = 2 by omega)).trans rfl)
  rw [e] at w
  obtain ⟨bk1, e1, q1⟩ := hB (upF bk cl ((i + 1 : Nat) : Int)) hs (Nat.le_succ_of_le hd)
  refine ⟨bk1, fun q hq => (e1 q (by omega)).trans (upF_lt hq), ?_⟩
  rcases q1 with q1 | ⟨a, b, nx, c2, q2⟩ | ⟨a, y, q2, r⟩
  · refine Or.inl ⟨q1.1, itC_t w (itC_t q1.2 (itC_1 (wkC_1 hj ⟨by omega, fun q => by omega, fun q => by omega, fun q => by omega, fun q => by omega, fun _ => Nat.succ_le_succ (Nat.zero_le cl)⟩) ((mSt_19 (x := wkX s1 (j1 : Int) (cl + 1) bk1 hs) (show ¬ (0 : Nat) = 1 by decide) wkX_n hr).trans ?_)))⟩
    have e2 : bk1 cl = ((i + 1 : Nat) : Int) := (e1 cl (Nat.lt_succ_self cl)).trans (if_pos rfl)
    show (s1.1, s1.2.1, _, _, bk1 (cl + 1 - 1), cl + 1 - 1, bk1, hs) = wkX s1 ((i + 1 : Nat) : Int) cl bk1 hs
    rw [Nat.add_sub_cancel, e2]
    rfl
  · exact Or.inr (Or.inl ⟨a, b, nx, c2, itC_t w q2⟩)
  · exact Or.inr (Or.inr ⟨a, y, itC_t w q2, r⟩)
/-- errors past handlers -/
theorem mRa_7 {k p v nx : Int} {c2 n : Nat} {bk : Nat → Int} {hs : List HdT} {a : Int} {f : Nat → Int} {q : Int × Int × Int} : mRa k p v (wkX s nx c2 bk ((7, cl, a, q.1, q.2.1, q.2.2, n, f) :: hs)) = mRa k p v (wkX (wkE s (evRs s.1.1 n f)) nx cl bk hs) := by
  have e : raH k p v ((7, cl, a, q.1, q.2.1, q.2.2, n, f) :: hs) s.1.1 c2 = raH k p v hs (evRs s.1.1 n f) cl := raH_a rfl
  show (if (raH k p v ((7, cl, a, q.1, q.2.1, q.2.2, n, f) :: hs) s.1.1 c2).1 = 1 then _ else _) = _
  rw [e]
  show (if (raH k p v hs (evRs s.1.1 n f) cl).1 = 1 then _ else _) = _
  by_cases h : (raH k p v hs (evRs s.1.1 n f) cl).1 = 1
  · rw [if_pos h]
    unfold mRa
    refine Eq.trans ?_ (if_pos h).symm
    show ((((raH k p v ((7, cl, a, q.1, q.2.1, q.2.2, n, f) :: hs) s.1.1 c2).2.2.1, s.1.2), s.2.1, _, _, (raH k p v ((7, cl, a, q.1, q.2.1, q.2.2, n, f) :: hs) s.1.1 c2).2.2.2.2, (raH k p v ((7, cl, a, q.1, q.2.1, q.2.2, n, f) :: hs) s.1.1 c2).2.2.2.1, bk, (raH k p v ((7, cl, a, q.1, q.2.1, q.2.2, n, f) :: hs) s.1.1 c2).2.1) : MsT) = _
    rw [e]
    rfl
  · rw [if_neg h]
    unfold mRa
    refine Eq.trans ?_ (if_neg h).symm
    show ((((raH k p v ((7, cl, a, q.1, q.2.1, q.2.2, n, f) :: hs) s.1.1 c2).2.2.1, s.1.2), s.2.1, _, _, nx, (raH k p v ((7, cl, a, q.1, q.2.1, q.2.2, n, f) :: hs) s.1.1 c2).2.2.2.1, bk, []) : MsT) = _
    rw [e]
    rfl
theorem mRa_10 {k p v nx : Int} {c2 n : Nat} {bk : Nat → Int} {hs : List HdT} {a : Int} {f : Nat → Int} {q : Int × Int × Int} : mRa k p v (wkX s nx c2 bk ((10, cl, a, q.1, q.2.1, q.2.2, n, f) :: hs)) = mRa k p v (wkX s nx cl bk hs) := by
  have e : raH k p v ((10, cl, a, q.1, q.2.1, q.2.2, n, f) :: hs) s.1.1 c2 = raH k p v hs s.1.1 cl := raH_o (show (10 : Int) ≠ 9 by decide) (show (10 : Int) ≠ 7 by decide)
  show (if (raH k p v ((10, cl, a, q.1, q.2.1, q.2.2, n, f) :: hs) s.1.1 c2).1 = 1 then _ else _) = _
  rw [e]
  show (if (raH k p v hs s.1.1 cl).1 = 1 then _ else _) = _
  by_cases h : (raH k p v hs s.1.1 cl).1 = 1
  · rw [if_pos h]
    unfold mRa
    refine Eq.trans ?_ (if_pos h).symm
    show ((((raH k p v ((10, cl, a, q.1, q.2.1, q.2.2, n, f) :: hs) s.1.1 c2).2.2.1, s.1.2), s.2.1, _, _, (raH k p v ((10, cl, a, q.1, q.2.1, q.2.2, n, f) :: hs) s.1.1 c2).2.2.2.2, (raH k p v ((10, cl, a, q.1, q.2.1, q.2.2, n, f) :: hs) s.1.1 c2).2.2.2.1, bk, (raH k p v ((10, cl, a, q.1, q.2.1, q.2.2, n, f) :: hs) s.1.1 c2).2.1) : MsT) = _
    rw [e]
    rfl
  · rw [if_neg h]
    unfold mRa
    refine Eq.trans ?_ (if_neg h).symm
    show ((((raH k p v ((10, cl, a, q.1, q.2.1, q.2.2, n, f) :: hs) s.1.1 c2).2.2.1, s.1.2), s.2.1, _, _, nx, (raH k p v ((10, cl, a, q.1, q.2.1, q.2.2, n, f) :: hs) s.1.1 c2).2.2.2.1, bk, []) : MsT) = _
    rw [e]
    rfl
theorem mRa_9 {k p v nx : Int} {c2 n : Nat} {bk : Nat → Int} {hs : List HdT} {a : Int} {f : Nat → Int} {q : Int × Int × Int} : mRa k p v (wkX s nx c2 bk ((9, cl, a, q.1, q.2.1, q.2.2, n, f) :: hs)) = wkX s a cl bk ((10, cl, a, k, p, v, n, f) :: hs) := by
  have e : raH k p v ((9, cl, a, q.1, q.2.1, q.2.2, n, f) :: hs) s.1.1 c2 = (1, (10, cl, a, k, p, v, n, f) :: hs, s.1.1, cl, a) := raH_t rfl
  show (if (raH k p v ((9, cl, a, q.1, q.2.1, q.2.2, n, f) :: hs) s.1.1 c2).1 = 1 then _ else _) = _
  rw [e]
  refine (if_pos rfl).trans ?_
  show ((((raH k p v ((9, cl, a, q.1, q.2.1, q.2.2, n, f) :: hs) s.1.1 c2).2.2.1, s.1.2), s.2.1, _, _, (raH k p v ((9, cl, a, q.1, q.2.1, q.2.2, n, f) :: hs) s.1.1 c2).2.2.2.2, (raH k p v ((9, cl, a, q.1, q.2.1, q.2.2, n, f) :: hs) s.1.1 c2).2.2.2.1, bk, (raH k p v ((9, cl, a, q.1, q.2.1, q.2.2, n, f) :: hs) s.1.1 c2).2.1) : MsT) = _
  rw [e]
  rfl
end
