/-! fj: SCRIPTS: codes of expressions: how high the stack grows; the reference's values as they lie -/
def cdP (x : Int × Int) : Prop := (x.1 = 48 ∧ 0 ≤ x.2 ∧ x.2 ≤ 9999) ∨ (x.1 = 97 ∧ 0 ≤ x.2 ∧ x.2 < 26) ∨ x.1 = 35
def cdU (x : Int × Int) : Prop := x.1 = 95 ∨ (x.1 = 64 ∧ 0 ≤ x.2 ∧ x.2 ≤ 5) ∨ x.1 = 39
def cdB (x : Int × Int) : Prop := x.1 = 42 ∨ x.1 = 47 ∨ x.1 = 37 ∨ x.1 = 43 ∨ x.1 = 45 ∨ x.1 = 60 ∨ x.1 = 61
def cdH (B : Nat) : CdL → Nat → Nat → Prop
  | [], h, z => h = z
  | x :: r, h, z => (cdP x ∧ h + 1 ≤ B ∧ cdH B r (h + 1) z) ∨ (cdU x ∧ 1 ≤ h ∧ cdH B r h z) ∨ (cdB x ∧ 2 ≤ h ∧ cdH B r (h - 1) z)
theorem cdH_ap {B : Nat} : ∀ {a b : CdL} {h y z : Nat}, cdH B a h y → cdH B b y z → cdH B (a ++ b) h z
  | [], b, h, y, z, h1, h2 => by
    have e : h = y := h1
    rw [e]; exact h2
  | x :: r, b, h, y, z, h1, h2 => by
    rcases h1 with ⟨q1, q2, q3⟩ | ⟨q1, q2, q3⟩ | ⟨q1, q2, q3⟩
    · exact Or.inl ⟨q1, q2, cdH_ap q3 h2⟩
    · exact Or.inr (Or.inl ⟨q1, q2, cdH_ap q3 h2⟩)
    · exact Or.inr (Or.inr ⟨q1, q2, cdH_ap q3 h2⟩)
/-- codes of one value, that want so much room -/
def cdW (d : Nat) (x : ExR) : Prop := x.1 = 1 → ∀ B h, h + d ≤ B → cdH B x.2.2 h (h + 1)
theorem cdW_o {d : Nat} {c : Nat → Int} {x y : ExR} (hx : cdW (d + 1) x) (h1 : x.1 = 1) (hy : cdW d y) (hb : isB (c x.2.1)) : cdW (d + 1) (exO c x y) := fun h B k hk => by
  have g := exO_1 h
  rw [exO_e g]
  exact cdH_ap (cdH_ap (hx h1 B k hk) (hy g B (k + 1) (by omega))) (Or.inr (Or.inr ⟨hb, by omega, rfl⟩))
theorem cdW_s {d d' : Nat} {x : ExR} (h : cdW d x) (hd : d ≤ d') : cdW d' x := fun h1 B k hk => h h1 B k (by omega)
theorem exLp_W {d n : Nat} {c : Nat → Int} {a b e : Int} (ha : isB a ∧ isB b ∧ isB e) {A : Nat → ExR} (hA : ∀ p, cdW d (A p)) : ∀ {m : Nat} {x : ExR}, cdW (d + 1) x → cdW (d + 1) (exLp c a b e A m x)
  | 0, x, h => h
  | m + 1, x, h => by
    by_cases q : x.1 = 1 ∧ (c x.2.1 = a ∨ c x.2.1 = b ∨ c x.2.1 = e)
    · rw [exLp_1 q]
      refine exLp_W (n := n) ha hA (cdW_o h q.1 (hA _) ?_)
      rcases q.2 with w | w | w
      · rw [w]; exact ha.1
      · rw [w]; exact ha.2.1
      · rw [w]; exact ha.2.2
    · rw [exLp_0 q]; exact h
theorem cdW_pr {d : Nat} {c : Nat → Int} {A : Nat → ExR} (hA : ∀ p, cdW d (A p)) (p : Nat) : cdW (d + 1) (exPr c A p) := exLp_W (n := 0) ⟨Or.inl rfl, Or.inr (Or.inl rfl), Or.inr (Or.inr (Or.inl rfl))⟩ hA (cdW_s (hA p) (Nat.le_succ d))
theorem cdW_sm {d : Nat} {c : Nat → Int} {A : Nat → ExR} (hA : ∀ p, cdW d (A p)) (p : Nat) : cdW (d + 2) (exSm c A p) := exLp_W (n := 0) ⟨Or.inr (Or.inr (Or.inr (Or.inl rfl))), Or.inr (Or.inr (Or.inr (Or.inr (Or.inl rfl)))), Or.inr (Or.inr (Or.inr (Or.inr (Or.inl rfl))))⟩ (cdW_pr hA) (cdW_s (cdW_pr hA p) (Nat.le_succ _))
theorem cdW_cm {d : Nat} {c : Nat → Int} {A : Nat → ExR} (hA : ∀ p, cdW d (A p)) (p : Nat) : cdW (d + 3) (exCm c A p) := by
  unfold exCm exC1
  by_cases e : (exSm c A p).1 = 1 ∧ (c (exSm c A p).2.1 = 60 ∨ c (exSm c A p).2.1 = 61)
  · rw [if_pos e]
    refine cdW_o (cdW_s (cdW_sm hA p) (Nat.le_succ _)) e.1 (cdW_sm hA _) ?_
    rcases e.2 with w | w
    · rw [w]; exact Or.inr (Or.inr (Or.inr (Or.inr (Or.inr (Or.inl rfl)))))
    · rw [w]; exact Or.inr (Or.inr (Or.inr (Or.inr (Or.inr (Or.inr rfl)))))
  · rw [if_neg e]; exact cdW_s (cdW_sm hA p) (Nat.le_succ _)
theorem cdW_un {d : Nat} {u : Int} {x : ExR} (hu : u = 95 ∨ u = 39) (hx : cdW d x) : cdW d (exUn u x) := fun h B k hk => by
  have g := exUn_1 h
  rw [g.2]
  exact cdH_ap (hx g.1 B k hk) (Or.inr (Or.inl ⟨by rcases hu with q | q; exact Or.inl q; exact Or.inr (Or.inr q), by omega, rfl⟩))
theorem cdW_fd {d : Nat} {c : Nat → Int} {x : ExR} (hx : cdW d x) : cdW d (exFd c x) := fun h B k hk => by
  have g := exFd_1 h
  rw [g.2.2.2]
  exact cdH_ap (hx g.1 B k hk) (Or.inr (Or.inl ⟨Or.inr (Or.inl ⟨rfl, by show 0 ≤ c (x.2.1 + 1) - 48; omega, by show c (x.2.1 + 1) - 48 ≤ 5; omega⟩), by omega, rfl⟩))
theorem cdW_pa {d : Nat} {c : Nat → Int} {x : ExR} (hx : cdW d x) : cdW d (exPa c x) := fun h B k hk => by
  have g := exPa_1 h
  rw [g.2.2]
  exact hx g.1 B k hk
theorem dgV_b {c : Nat → Int} : ∀ {k p : Nat} {v : Int}, k ≤ dgN c k p → 0 ≤ v → 0 ≤ dgV c k p v ∧ dgV c k p v + 1 ≤ 10 ^ k * (v + 1)
  | 0, p, v, _, hv => ⟨hv, by show v + 1 ≤ 1 * (v + 1); omega⟩
  | k + 1, p, v, h, hv => by
    by_cases e : 48 ≤ c p ∧ c p ≤ 57
    · rw [dgN_1 e] at h
      have w := dgV_b (c := c) (k := k) (p := p + 1) (v := 10 * v + c p - 48) (by omega) (by omega)
      refine ⟨w.1, Int.le_trans w.2 ?_⟩
      rw [Int.pow_succ, Int.mul_assoc]
      exact Int.mul_le_mul_of_nonneg_left (by omega) (Int.pow_nonneg (by decide))
    · have z : dgN c (k + 1) p = 0 := if_neg e
      omega
theorem dgN_k {c : Nat → Int} : ∀ {k p : Nat}, dgN c (dgN c k p) p = dgN c k p
  | 0, p => rfl
  | k + 1, p => by
    by_cases e : 48 ≤ c p ∧ c p ≤ 57
    · rw [dgN_1 e, dgN_1 e, dgN_k]
    · have z : dgN c (k + 1) p = 0 := if_neg e
      rw [z]; rfl
theorem dgV_4 {c : Nat → Int} {p : Nat} : 0 ≤ dgV c (dgN c 4 p) p 0 ∧ dgV c (dgN c 4 p) p 0 ≤ 9999 := by
  have w := dgV_b (c := c) (k := dgN c 4 p) (p := p) (v := 0) (by rw [dgN_k]; exact Nat.le_refl _) (Int.le_refl 0)
  have z : dgN c 4 p ≤ 4 := dgN_4
  refine ⟨w.1, ?_⟩
  have h2 := w.2
  have h3 : (10 : Int) ^ (dgN c 4 p) ≤ 10000 := by
    rcases (show dgN c 4 p = 0 ∨ dgN c 4 p = 1 ∨ dgN c 4 p = 2 ∨ dgN c 4 p = 3 ∨ dgN c 4 p = 4 by omega) with q | q | q | q | q <;> rw [q] <;> decide
  omega
theorem cdW_b {c : Nat → Int} {p : Nat} : cdW 1 (exB c p) := fun h B k hk => by
  unfold exB at *
  by_cases e1 : 48 ≤ c p ∧ c p ≤ 57
  · rw [if_pos e1]
    have w := dgV_4 (c := c) (p := p)
    exact Or.inl ⟨Or.inl ⟨rfl, w⟩, hk, rfl⟩
  · rw [if_neg e1] at h ⊢
    by_cases e2 : 97 ≤ c p ∧ c p ≤ 122
    · rw [if_pos e2]
      exact Or.inl ⟨Or.inr (Or.inl ⟨rfl, by show 0 ≤ c p - 97; omega, by show c p - 97 < 26; omega⟩), hk, rfl⟩
    · rw [if_neg e2] at h ⊢
      by_cases e3 : c p = 35
      · rw [if_pos e3]; exact Or.inl ⟨Or.inr (Or.inr rfl), hk, rfl⟩
      · rw [if_neg e3] at h; exact absurd (show (0 : Nat) = 1 from h) (by decide)
theorem cdW_at {c : Nat → Int} : ∀ {r p : Nat}, cdW (3 * r + 1) (exAt c r p)
  | 0, p => cdW_b
  | r + 1, p => by
    have ih : ∀ p, cdW (3 * r + 1) (exAt c r p) := fun p => cdW_at
    by_cases e1 : c p = 40
    · rw [exAt_p e1]; exact cdW_pa (cdW_cm ih _)
    · by_cases e2 : c p = 45
      · rw [exAt_m e2]; exact cdW_s (cdW_un (Or.inl rfl) (ih _)) (by omega)
      · by_cases e3 : c p = 39
        · rw [exAt_q e3]; exact cdW_s (cdW_un (Or.inr rfl) (ih _)) (by omega)
        · by_cases e4 : c p = 64
          · rw [exAt_a e4]; exact cdW_s (cdW_fd (ih _)) (by omega)
          · rw [exAt_B ⟨e1, e2, e3, e4⟩]; exact cdW_s cdW_b (by omega)
theorem cdW_ex {c : Nat → Int} {r p : Nat} : cdW (3 * r + 4) (exEx c r p) := cdW_cm (fun _ => cdW_at) p
/-- an expression's codes, an atom's codes: what the reference's stack bears -/
theorem cdH_ex {c : Nat → Int} {p : Nat} (h : (exEx c 3 p).1 = 1) : cdH 64 (exEx c 3 p).2.2 0 1 := cdW_ex h 64 0 (by decide)
theorem cdH_at {c : Nat → Int} {p : Nat} (h : (exAt c 3 p).1 = 1) : cdH 64 (exAt c 3 p).2.2 0 1 := cdW_at h 64 0 (by decide)
theorem cdH_n {B : Nat} {x : Int × Int} {r : CdL} {h z : Nat} (g : cdH B (x :: r) h z) : x.1 ≠ 0 ∧ ((cdP x ∧ h + 1 ≤ B ∧ cdH B r (h + 1) z) ∨ (cdU x ∧ 1 ≤ h ∧ cdH B r h z) ∨ (cdB x ∧ 2 ≤ h ∧ cdH B r (h - 1) z)) := by
  refine ⟨?_, g⟩
  rcases g with ⟨q, _⟩ | ⟨q, _⟩ | ⟨q, _⟩
  · unfold cdP at q; omega
  · unfold cdU at q; omega
  · unfold cdB at q; omega
/-- a stack as it lies: its top is the list's head -/
def zSk (st : List Int) (L : ZI) : Prop := ∀ i : Nat, i < st.length → L 267 i = st.getD (st.length - 1 - i) 0
theorem zSk_0 {L : ZI} : zSk [] L := fun i h => absurd h (Nat.not_lt_zero i)
theorem zSk_p {st : List Int} {L L' : ZI} {v : Int} (h : zSk st L) (hv : L' 267 st.length = v) (hf : ∀ i : Nat, i < st.length → L' 267 i = L 267 i) : zSk (v :: st) L' := fun i hi => by
  have hi2 : i < st.length + 1 := hi
  show L' 267 i = (v :: st).getD (st.length + 1 - 1 - i) 0
  by_cases e : i = st.length
  · rw [e, hv, Nat.add_sub_cancel, Nat.sub_self]; rfl
  · rw [hf i (by omega), h i (by omega)]
    rw [show st.length + 1 - 1 - i = (st.length - 1 - i) + 1 by omega]
    rfl
theorem zSk_t {a : Int} {st : List Int} {L : ZI} (h : zSk (a :: st) L) : L 267 st.length = a ∧ zSk st L := by
  refine ⟨?_, fun i hi => ?_⟩
  · have w := h st.length (Nat.lt_succ_self _)
    rw [w]
    show (a :: st).getD (st.length + 1 - 1 - st.length) 0 = a
    rw [Nat.add_sub_cancel, Nat.sub_self]; rfl
  · have w := h i (Nat.lt_succ_of_lt hi)
    rw [w]
    show (a :: st).getD (st.length + 1 - 1 - i) 0 = st.getD (st.length - 1 - i) 0
    rw [show st.length + 1 - 1 - i = (st.length - 1 - i) + 1 by omega]
    rfl
/-- the reference's values -/
def zRv (E : EvE) (I L : ZI) : Prop := (∀ v : Nat, v < 26 → L 253 v = E.1 v) ∧ (I 234 28 = E.2.1 ∧ E.2.1 ≤ 12) ∧ (∀ j : Nat, j < 72 → L 251 j = E.2.2.1 j) ∧ (I 234 30 = E.2.2.2.1 ∧ E.2.2.2.1 ≤ 20) ∧ ∀ j : Nat, j < 20 → L 252 j = E.2.2.2.2 j
theorem zRv_fr {E : EvE} {I L I' L' : ZI} (h : zRv E I L) (hf : ∀ x j : Nat, x = 234 ∧ (j = 28 ∨ j = 30) → I' x j = I x j) (hl : ∀ x j : Nat, x = 251 ∨ x = 252 ∨ x = 253 → L' x j = L x j) : zRv E I' L' := ⟨fun v hv => (hl _ _ (by omega)).trans (h.1 v hv), ⟨(hf 234 28 (by omega)).trans h.2.1.1, h.2.1.2⟩, fun j hj => (hl _ _ (by omega)).trans (h.2.2.1 j hj), ⟨(hf 234 30 (by omega)).trans h.2.2.2.1.1, h.2.2.2.1.2⟩, fun j hj => (hl _ _ (by omega)).trans (h.2.2.2.2 j hj)⟩
