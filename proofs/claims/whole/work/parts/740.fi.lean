/-! fi: SCRIPTS: what an expression tells: its fault, its value -/
def evF (E : EvE) (l : CdL) : Nat := (evL E l []).1
def evV (E : EvE) (l : CdL) : Int := (evL E l []).2.getD 0 0
theorem ev_of {E : EvE} {l : CdL} {f : Nat} {v : Int} (h : evG E l f v) : evF E l = f ∧ (f = 0 → evV E l = v) := by
  have w := h []
  unfold evF evV
  rw [w]
  by_cases e : f = 0
  · rw [if_pos e]; exact ⟨e.symm, fun _ => rfl⟩
  · rw [if_neg e]; exact ⟨rfl, fun g => absurd g e⟩
def evT (E : EvE) (l : CdL) : Prop := ∃ f v, evG E l f v
theorem ev_G {E : EvE} {l : CdL} (h : evT E l) : evG E l (evF E l) (evV E l) := by
  obtain ⟨f, v, g⟩ := h
  have w := ev_of g
  intro st
  rw [g st, w.1]
  by_cases e : f = 0
  · rw [if_pos e, if_pos e, w.2 e]
  · rw [if_neg e, if_neg e]
theorem ev_1 {E : EvE} {c v : Int} (h : c = 48 ∨ c = 97 ∨ c = 35) : evF E [(c, v)] = 0 ∧ evV E [(c, v)] = (if c = 48 then v else if c = 97 then E.1 v.toNat else (E.2.1 : Int)) := ⟨(ev_of (evG_1 h)).1, (ev_of (evG_1 h)).2 rfl⟩
theorem ev_u {E : EvE} {l : CdL} {c d : Int} (h : evT E l) (hc : c = 95 ∨ c = 64 ∨ c = 39) : evF E (l ++ [(c, d)]) = (if evF E l = 0 then (evU E c d (evV E l)).1 else evF E l) ∧ (evF E (l ++ [(c, d)]) = 0 → evV E (l ++ [(c, d)]) = (evU E c d (evV E l)).2) := by
  have w := ev_of (evG_u (c := c) (d := d) (ev_G h) hc)
  exact ⟨w.1, fun g => w.2 (w.1.symm.trans g)⟩
theorem ev_b {E : EvE} {l m : CdL} {c d : Int} (h : evT E l) (h2 : evT E m) (hc : c = 42 ∨ c = 47 ∨ c = 37 ∨ c = 43 ∨ c = 45 ∨ c = 60 ∨ c = 61) : evF E (l ++ m ++ [(c, d)]) = (if evF E l = 0 then (if evF E m = 0 then evD c (evV E m) else evF E m) else evF E l) ∧ (evF E (l ++ m ++ [(c, d)]) = 0 → evV E (l ++ m ++ [(c, d)]) = evB c (evV E l) (evV E m)) := by
  have w := ev_of (evG_b (c := c) (d := d) (ev_G h) (ev_G h2) hc)
  exact ⟨w.1, fun g => w.2 (w.1.symm.trans g)⟩
/-- what an evaluation of codes leaves: its value v, what is raised behind it (z ahead of it) -/
def zEo (E : EvE) (l : CdL) (z v z' : Int) : Prop := (z ≠ 0 → z' = z) ∧ (z = 0 → z' = evF E l) ∧ (evF E l = 0 → v = evV E l)
theorem zEo_1 {E : EvE} {c d z v : Int} (h : c = 48 ∨ c = 97 ∨ c = 35) (hv : v = if c = 48 then d else if c = 97 then E.1 d.toNat else (E.2.1 : Int)) : zEo E [(c, d)] z v z := ⟨fun _ => rfl, fun g => g.trans (by rw [(ev_1 h).1]; rfl), fun _ => hv.trans (ev_1 h).2.symm⟩
/-- a sign ahead: no fault of its own -/
theorem zEo_m {E : EvE} {l : CdL} {z v z' : Int} (ht : evT E l) (h : zEo E l z v z') : zEo E (l ++ [(95, 0)]) z (zn6 (-v)) z' := by
  have w := ev_u (c := 95) (d := 0) ht (Or.inl rfl)
  have e : ∀ a, evU E 95 0 a = (0, zn6 (-a)) := fun a => if_pos rfl
  rw [e] at w
  have e2 : evF E (l ++ [(95, 0)]) = evF E l := by
    rw [w.1]
    by_cases q : evF E l = 0
    · rw [if_pos q, q]
    · rw [if_neg q]
  refine ⟨h.1, fun g => by rw [e2]; exact h.2.1 g, fun g => ?_⟩
  rw [w.2 g, h.2.2 (e2.symm.trans g)]
/-- one that reads: u is the fault's kind or 0, x what it read -/
theorem zEo_r {E : EvE} {l : CdL} {c d z v z1 z2 x : Int} {u : Nat} (ht : evT E l) (hc : c = 64 ∨ c = 39) (h : zEo E l z v z1) (hu : evF E l = 0 → evU E c d v = (u, x)) (hz : (z1 = 0 ∧ z2 = u) ∨ (¬ z1 = 0 ∧ z2 = z1)) : zEo E (l ++ [(c, d)]) z x z2 := by
  have w := ev_u (c := c) (d := d) ht (by omega)
  refine ⟨fun g => ?_, fun g => ?_, fun g => ?_⟩
  · have := h.1 g
    omega
  · have q := h.2.1 g
    rw [w.1]
    by_cases e : evF E l = 0
    · rw [if_pos e, ← h.2.2 e, hu e]
      show z2 = (u : Int)
      omega
    · rw [if_neg e]
      omega
  · have e : evF E l = 0 := by
      by_cases e : evF E l = 0
      · exact e
      · rw [w.1, if_neg e] at g; exact absurd g e
    rw [w.2 g, ← h.2.2 e, hu e]
theorem zEo_b {E : EvE} {l m : CdL} {c d z v z1 v2 z2 z3 x : Int} (ht : evT E l) (hm : evT E m) (hc : c = 42 ∨ c = 47 ∨ c = 37 ∨ c = 43 ∨ c = 45 ∨ c = 60 ∨ c = 61) (h : zEo E l z v z1) (h2 : zEo E m z1 v2 z2) (hz : (z2 = 0 ∧ z3 = evD c v2) ∨ (¬ z2 = 0 ∧ z3 = z2)) (hx : evD c v2 = 0 → x = evB c v v2) : zEo E (l ++ m ++ [(c, d)]) z x z3 := by
  have w := ev_b (c := c) (d := d) ht hm hc
  refine ⟨fun g => ?_, fun g => ?_, fun g => ?_⟩
  · have q1 := h.1 g
    have q2 := h2.1 (by omega)
    omega
  · have q := h.2.1 g
    rw [w.1]
    by_cases e : evF E l = 0
    · rw [if_pos e]
      have q2 := h2.2.1 (by omega)
      by_cases e2 : evF E m = 0
      · rw [if_pos e2, ← h2.2.2 e2]
        omega
      · rw [if_neg e2]
        omega
    · rw [if_neg e]
      have q2 := h2.1 (by omega)
      omega
  · rw [w.1] at g
    by_cases e : evF E l = 0
    · rw [if_pos e] at g
      by_cases e2 : evF E m = 0
      · rw [if_pos e2] at g
        rw [w.2 (by rw [w.1, if_pos e, if_pos e2]; exact g), ← h.2.2 e, ← h2.2.2 e2]
        exact hx (by rw [h2.2.2 e2]; exact g)
      · rw [if_neg e2] at g; exact absurd g e2
    · rw [if_neg e] at g; exact absurd g e
theorem zEo_n {E : EvE} {l : CdL} {z v z' : Int} (h : zEo E l z v z') : (z ≠ 0 ∧ z' = z) ∨ (z = 0 ∧ z' = evF E l) := by
  by_cases e : z = 0
  · exact Or.inr ⟨e, h.2.1 e⟩
  · exact Or.inl ⟨e, h.1 e⟩
/-- the class's machine: what an evaluation looks at -/
def zEv (E : EvE) (I L : ZI) : Prop := (∀ v : Nat, v < 26 → L 139 v = E.1 v) ∧ (I 138 3 = E.2.1 ∧ E.2.1 ≤ 12) ∧ (∀ j : Nat, j < 72 → L 140 j = E.2.2.1 j) ∧ (I 138 6 = E.2.2.2.1 ∧ E.2.2.2.1 ≤ 20) ∧ ∀ j : Nat, j < 20 → L 142 j = E.2.2.2.2 j
theorem zEv_fr {E : EvE} {I L I' L' : ZI} (h : zEv E I L) (hf : ∀ x j : Nat, x = 138 ∧ (j = 3 ∨ j = 6) → I' x j = I x j) (hl : ∀ x j : Nat, x = 139 ∨ x = 140 ∨ x = 142 → L' x j = L x j) : zEv E I' L' := ⟨fun v hv => (hl _ _ (by omega)).trans (h.1 v hv), ⟨(hf 138 3 (by omega)).trans h.2.1.1, h.2.1.2⟩, fun j hj => (hl _ _ (by omega)).trans (h.2.2.1 j hj), ⟨(hf 138 6 (by omega)).trans h.2.2.2.1.1, h.2.2.2.1.2⟩, fun j hj => (hl _ _ (by omega)).trans (h.2.2.2.2 j hj)⟩
/-- signs that an expression's reading goes through, when it is good -/
theorem exO_1 {c : Nat → Int} {x y : ExR} (h : (exO c x y).1 = 1) : y.1 = 1 := by
  unfold exO at h
  by_cases e : y.1 = 1
  · exact e
  · rw [if_neg e] at h; exact h
theorem exO_e {c : Nat → Int} {x y : ExR} (h : y.1 = 1) : exO c x y = (1, y.2.1, x.2.2 ++ y.2.2 ++ [(c x.2.1, 0)]) := if_pos h
theorem exLp_x {c : Nat → Int} {a b d : Int} {A : Nat → ExR} : ∀ {n : Nat} {x : ExR}, (exLp c a b d A n x).1 = 1 → x.1 = 1
  | 0, x, h => h
  | n + 1, x, h => by
    by_cases e : x.1 = 1 ∧ (c x.2.1 = a ∨ c x.2.1 = b ∨ c x.2.1 = d)
    · exact e.1
    · rw [exLp_0 e] at h; exact h
theorem exAt_4 {c : Nat → Int} {r p : Nat} (h : (exAt c r p).1 = 1) (h1 : ¬ (48 ≤ c p ∧ c p ≤ 57)) (h2 : ¬ (97 ≤ c p ∧ c p ≤ 122)) (h3 : ¬ c p = 35) : 1 ≤ r ∧ (c p = 40 ∨ c p = 45 ∨ c p = 39 ∨ c p = 64) := by
  by_cases e : c p ≠ 40 ∧ c p ≠ 45 ∧ c p ≠ 39 ∧ c p ≠ 64
  · rw [exAt_B e, exB_f h1 h2 h3] at h
    exact absurd (show (0 : Nat) = 1 from h) (by decide)
  · cases r with
    | zero =>
      rw [exAt_0, exB_f h1 h2 h3] at h
      exact absurd (show (0 : Nat) = 1 from h) (by decide)
    | succ r => exact ⟨Nat.succ_pos r, by omega⟩
theorem exPa_1 {c : Nat → Int} {x : ExR} (h : (exPa c x).1 = 1) : x.1 = 1 ∧ c x.2.1 = 41 ∧ exPa c x = (1, x.2.1 + 1, x.2.2) := by
  unfold exPa at *
  by_cases e : x.1 = 1
  · rw [if_pos e] at h ⊢
    by_cases e2 : c x.2.1 = 41
    · rw [if_pos e2]; exact ⟨e, e2, rfl⟩
    · rw [if_neg e2] at h; exact absurd (show (0 : Nat) = 1 from h) (by decide)
  · rw [if_neg e] at h; exact absurd h e
theorem exUn_1 {u : Int} {x : ExR} (h : (exUn u x).1 = 1) : x.1 = 1 ∧ exUn u x = (1, x.2.1, x.2.2 ++ [(u, 0)]) := by
  unfold exUn at *
  by_cases e : x.1 = 1
  · rw [if_pos e]; exact ⟨e, rfl⟩
  · rw [if_neg e] at h; exact absurd h e
theorem exFd_1 {c : Nat → Int} {x : ExR} (h : (exFd c x).1 = 1) : x.1 = 1 ∧ c x.2.1 = 58 ∧ (48 ≤ c (x.2.1 + 1) ∧ c (x.2.1 + 1) ≤ 53) ∧ exFd c x = (1, x.2.1 + 2, x.2.2 ++ [(64, c (x.2.1 + 1) - 48)]) := by
  unfold exFd at *
  by_cases e : x.1 = 1
  · rw [if_pos e] at h ⊢
    by_cases e2 : c x.2.1 = 58
    · rw [if_pos e2] at h ⊢
      by_cases e3 : 48 ≤ c (x.2.1 + 1) ∧ c (x.2.1 + 1) ≤ 53
      · rw [if_pos e3]; exact ⟨e, e2, e3, rfl⟩
      · rw [if_neg e3] at h; exact absurd (show (0 : Nat) = 1 from h) (by decide)
    · rw [if_neg e2] at h; exact absurd (show (0 : Nat) = 1 from h) (by decide)
  · rw [if_neg e] at h; exact absurd h e
theorem evT_b {E : EvE} {l m : CdL} {c d : Int} (h : evT E l) (h2 : evT E m) (hc : isB c) : evT E (l ++ m ++ [(c, d)]) := by
  obtain ⟨f, v, q⟩ := h
  obtain ⟨g, w, q2⟩ := h2
  exact ⟨_, _, evG_b q q2 hc⟩
theorem lp_go {c : Nat → Int} {a b d : Int} {A : Nat → ExR} {m : Nat} {y X : ExR} (h : exLp c a b d A (400 - m) y = X) (hX : X.1 = 1) (hm : m < 400) (hc : y.1 = 1 ∧ (c y.2.1 = a ∨ c y.2.1 = b ∨ c y.2.1 = d)) : (A (y.2.1 + 1)).1 = 1 ∧ exLp c a b d A (400 - (m + 1)) (exO c y (A (y.2.1 + 1))) = X := by
  rw [show 400 - m = (400 - (m + 1)) + 1 by omega, exLp_1 hc] at h
  exact ⟨exO_1 (exLp_x (by rw [h]; exact hX)), h⟩
theorem lp_end {c : Nat → Int} {a b d : Int} {A : Nat → ExR} {m : Nat} {y X : ExR} (h : exLp c a b d A (400 - m) y = X) (hm : 400 ≤ m ∨ ¬ (y.1 = 1 ∧ (c y.2.1 = a ∨ c y.2.1 = b ∨ c y.2.1 = d))) : y = X := by
  rcases hm with hm | hm
  · rw [show 400 - m = 0 by omega] at h; exact h
  · rw [exLp_0 hm] at h; exact h
theorem evD_0 {c b : Int} (h : c = 42 ∨ c = 43 ∨ c = 45 ∨ c = 60 ∨ c = 61) : evD c b = 0 := if_neg (fun q => by omega)
theorem zEo_o {E : EvE} {l m : CdL} {c d z v z1 v2 z2 x : Int} (ht : evT E l) (hm : evT E m) (hc : c = 42 ∨ c = 43 ∨ c = 45 ∨ c = 60 ∨ c = 61) (h : zEo E l z v z1) (h2 : zEo E m z1 v2 z2) (hx : x = evB c v v2) : zEo E (l ++ m ++ [(c, d)]) z x z2 := zEo_b ht hm (by omega) h h2 (by rw [evD_0 hc]; by_cases e : z2 = 0; exact Or.inl ⟨e, e⟩; exact Or.inr ⟨e, rfl⟩) (fun _ => hx)
theorem zEo_d {E : EvE} {l m : CdL} {c d z v z1 v2 z2 z3 x o : Int} (ht : evT E l) (hm : evT E m) (hc : (c = 47 ∧ o = 1) ∨ (c = 37 ∧ o = 0)) (h : zEo E l z v z1) (h2 : zEo E m z1 v2 z2) (hx : (v2 = 0 ∧ ((z2 = 0 ∧ z3 = 1) ∨ (¬ z2 = 0 ∧ z3 = z2))) ∨ (¬ v2 = 0 ∧ z3 = z2 ∧ ((o = 1 ∧ x = zn6 (v.tdiv v2)) ∨ (o = 0 ∧ x = v.tmod v2)))) : zEo E (l ++ m ++ [(c, d)]) z x z3 := by
  refine zEo_b ht hm (by omega) h h2 ?_ (fun hd => ?_)
  · by_cases e : v2 = 0
    · rw [show evD c v2 = 1 from if_pos ⟨e, by omega⟩]
      show (z2 = 0 ∧ z3 = 1) ∨ _
      omega
    · rw [show evD c v2 = 0 from if_neg (fun q => e q.1)]
      show (z2 = 0 ∧ z3 = 0) ∨ _
      omega
  · have e : ¬ v2 = 0 := fun q => by
      rw [show evD c v2 = 1 from if_pos ⟨q, by omega⟩] at hd
      exact absurd hd (by decide)
    rcases hx with hx | ⟨_, _, hx⟩
    · exact absurd hx.1 e
    · unfold evB
      rcases hc with ⟨hc, ho⟩ | ⟨hc, ho⟩
      · rw [if_neg (by omega), if_pos hc]
        rcases hx with hx | hx
        · exact hx.2
        · omega
      · rw [if_neg (by omega), if_neg (by omega), if_pos hc]
        rcases hx with hx | hx
        · omega
        · exact hx.2
theorem evB_m {a b : Int} : evB 42 a b = zn6 (a * b) := if_pos rfl
theorem evB_a {a b : Int} : evB 43 a b = zn6 (a + b) := rfl
theorem evB_s {a b : Int} : evB 45 a b = zn6 (a - b) := rfl
theorem evB_l {a b : Int} : evB 60 a b = if a < b then 1 else 0 := rfl
theorem evB_q {a b : Int} : evB 61 a b = if a = b then 1 else 0 := rfl
theorem evU_a {E : EvE} {d a : Int} (h : 0 ≤ a ∧ a < E.2.1) : evU E 64 d a = (0, E.2.2.1 (6 * a.toNat + d.toNat)) := if_pos h
theorem evU_b {E : EvE} {d a : Int} (h : ¬ (0 ≤ a ∧ a < E.2.1)) : evU E 64 d a = (2, 0) := if_neg h
theorem evU_c {E : EvE} {d a : Int} (h : 0 ≤ a ∧ a < E.2.2.2.1) : evU E 39 d a = (0, E.2.2.2.2 a.toNat) := if_pos h
theorem evU_d {E : EvE} {d a : Int} (h : ¬ (0 ≤ a ∧ a < E.2.2.2.1)) : evU E 39 d a = (2, 0) := if_neg h
theorem tmod_r {a b q : Int} (ha : -9223372036854775808 ≤ a ∧ a ≤ 9223372036854775807) (e : q = a.tmod b) : -9223372036854775808 ≤ q ∧ q ≤ 9223372036854775807 := by
  have h1 : (a.tmod b).natAbs ≤ a.natAbs := by
    rw [Int.natAbs_tmod]
    exact Nat.mod_le _ _
  rw [← e] at h1
  rcases Int.le_total 0 a with h | h
  · have h2 := Int.tmod_nonneg b h
    rw [← e] at h2
    omega
  · have h2 := Int.tmod_nonneg b (show 0 ≤ -a by omega)
    rw [Int.neg_tmod, ← e] at h2
    omega
theorem exEx_1 {c : Nat → Int} {r p : Nat} (h : (exEx c r p).1 = 1) : (exSm c (exAt c r) p).1 = 1 := by
  unfold exEx exCm exC1 at h
  by_cases e : (exSm c (exAt c r) p).1 = 1 ∧ (c (exSm c (exAt c r) p).2.1 = 60 ∨ c (exSm c (exAt c r) p).2.1 = 61)
  · exact e.1
  · rw [if_neg e] at h; exact h
theorem exEx_n {c : Nat → Int} {r p : Nat} (h : ¬ (c (exSm c (exAt c r) p).2.1 = 60 ∨ c (exSm c (exAt c r) p).2.1 = 61)) : exEx c r p = exSm c (exAt c r) p := if_neg (fun q => h q.2)
theorem exEx_y {c : Nat → Int} {r p : Nat} (h : (exEx c r p).1 = 1) (h2 : c (exSm c (exAt c r) p).2.1 = 60 ∨ c (exSm c (exAt c r) p).2.1 = 61) : (exSm c (exAt c r) ((exSm c (exAt c r) p).2.1 + 1)).1 = 1 ∧ exEx c r p = (1, (exSm c (exAt c r) ((exSm c (exAt c r) p).2.1 + 1)).2.1, (exSm c (exAt c r) p).2.2 ++ (exSm c (exAt c r) ((exSm c (exAt c r) p).2.1 + 1)).2.2 ++ [(c (exSm c (exAt c r) p).2.1, 0)]) := by
  have e : exEx c r p = exO c (exSm c (exAt c r) p) (exSm c (exAt c r) ((exSm c (exAt c r) p).2.1 + 1)) := if_pos ⟨exEx_1 h, h2⟩
  rw [e] at h ⊢
  exact ⟨exO_1 h, exO_e (exO_1 h)⟩
theorem evT_sm {E : EvE} {c : Nat → Int} {r p : Nat} (h : (exSm c (exAt c r) p).1 = 1) : evT E (exSm c (exAt c r) p).2.2 := exSm_H (exAt_H r) p h
theorem evT_at {E : EvE} {c : Nat → Int} {r p : Nat} (h : (exAt c r p).1 = 1) : evT E (exAt c r p).2.2 := exAt_H r p h
theorem evT_ex {E : EvE} {c : Nat → Int} {r p : Nat} (h : (exEx c r p).1 = 1) : evT E (exEx c r p).2.2 := exEx_H r p h
theorem exPrA_ok {n : Nat} {c : Nat → Int} {r : Nat} (h : eTx n c) {p : Nat} (hp : p ≤ n) : exOk n p (exPr c (exAt c r) p) := exPr_ok h (fun _ hq => exAt_ok h hq) hp
