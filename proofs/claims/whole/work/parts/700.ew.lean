/-! ew: SCRIPTS: expressions as a text has them (c: the letter at a place, -1 outside; a reading: 1 or 0, the place behind it or of its fault, its codes) -/
theorem zDy_130 {R : ZR} {S : ZS} (hR : zRs R) (hS : zSh S) : zDy zT8 zF8 130 R S := zDy_st hR hS rfl rfl (by decide +kernel) (by decide +kernel)
theorem zDy_134 {R : ZR} {S : ZS} (hR : zRs R) (hS : zSh S) : zDy zT8 zF8 134 R S := zDy_st hR hS rfl rfl (by decide +kernel) (by decide +kernel)
abbrev CdL : Type := List (Int × Int)
abbrev ExR : Type := Nat × Nat × CdL
def exF (p : Nat) : ExR := (0, p, [])
def isDg (u : Int) : Prop := 48 ≤ u ∧ u ≤ 57
def dgN (c : Nat → Int) : Nat → Nat → Nat
  | 0, _ => 0
  | k + 1, p => if 48 ≤ c p ∧ c p ≤ 57 then dgN c k (p + 1) + 1 else 0
def dgV (c : Nat → Int) : Nat → Nat → Int → Int
  | 0, _, v => v
  | k + 1, p, v => dgV c k (p + 1) (10 * v + c p - 48)
/-- one that does not nest -/
def exB (c : Nat → Int) (p : Nat) : ExR := if 48 ≤ c p ∧ c p ≤ 57 then (1, p + dgN c 4 p, [(48, dgV c (dgN c 4 p) p 0)]) else if 97 ≤ c p ∧ c p ≤ 122 then (1, p + 1, [(97, c p - 97)]) else if c p = 35 then (1, p + 1, [(35, 0)]) else exF p
/-- a sign behind, and what is behind it -/
def exO (c : Nat → Int) (x y : ExR) : ExR := if y.1 = 1 then (1, y.2.1, x.2.2 ++ y.2.2 ++ [(c x.2.1, 0)]) else y
def exLp (c : Nat → Int) (a b d : Int) (A : Nat → ExR) : Nat → ExR → ExR
  | 0, x => x
  | n + 1, x => if x.1 = 1 ∧ (c x.2.1 = a ∨ c x.2.1 = b ∨ c x.2.1 = d) then exLp c a b d A n (exO c x (A (x.2.1 + 1))) else x
def exPr (c : Nat → Int) (A : Nat → ExR) (p : Nat) : ExR := exLp c 42 47 37 A 400 (A p)
def exSm (c : Nat → Int) (A : Nat → ExR) (p : Nat) : ExR := exLp c 43 45 45 (exPr c A) 400 (exPr c A p)
def exC1 (c : Nat → Int) (A : Nat → ExR) (x : ExR) : ExR := if x.1 = 1 ∧ (c x.2.1 = 60 ∨ c x.2.1 = 61) then exO c x (exSm c A (x.2.1 + 1)) else x
def exCm (c : Nat → Int) (A : Nat → ExR) (p : Nat) : ExR := exC1 c A (exSm c A p)
def exFd (c : Nat → Int) (x : ExR) : ExR := if x.1 = 1 then (if c x.2.1 = 58 then (if 48 ≤ c (x.2.1 + 1) ∧ c (x.2.1 + 1) ≤ 53 then (1, x.2.1 + 2, x.2.2 ++ [(64, c (x.2.1 + 1) - 48)]) else exF (x.2.1 + 1)) else exF x.2.1) else x
def exPa (c : Nat → Int) (x : ExR) : ExR := if x.1 = 1 then (if c x.2.1 = 41 then (1, x.2.1 + 1, x.2.2) else exF x.2.1) else x
def exUn (u : Int) (x : ExR) : ExR := if x.1 = 1 then (1, x.2.1, x.2.2 ++ [(u, 0)]) else x
def exAt (c : Nat → Int) : Nat → Nat → ExR
  | 0, p => exB c p
  | r + 1, p => if c p = 40 then exPa c (exCm c (exAt c r) (p + 1)) else if c p = 45 then exUn 95 (exAt c r (p + 1)) else if c p = 39 then exUn 39 (exAt c r (p + 1)) else if c p = 64 then exFd c (exAt c r (p + 1)) else exB c p
def exEx (c : Nat → Int) (r : Nat) (p : Nat) : ExR := exCm c (exAt c r) p
/-- where a reading ends -/
def exOk (n p : Nat) (x : ExR) : Prop := (x.1 = 1 ∧ p < x.2.1 ∧ x.2.1 ≤ n) ∨ (x.1 = 0 ∧ x.2.1 ≤ n)
def eTx (n : Nat) (c : Nat → Int) : Prop := n ≤ 400 ∧ (∀ p, n ≤ p → c p = -1) ∧ ∀ p, -1 ≤ c p ∧ c p ≤ 126
theorem eTx_lt {n : Nat} {c : Nat → Int} (h : eTx n c) {p : Nat} (hp : c p ≠ -1) : p < n := by
  rcases Nat.lt_or_ge p n with q | q
  · exact q
  · exact absurd (h.2.1 p q) hp
theorem dgN_b {n : Nat} {c : Nat → Int} (h : eTx n c) : ∀ {k p : Nat}, p ≤ n → dgN c k p ≤ k ∧ p + dgN c k p ≤ n
  | 0, p, hp => ⟨Nat.le_refl 0, hp⟩
  | k + 1, p, hp => by
    show (if 48 ≤ c p ∧ c p ≤ 57 then dgN c k (p + 1) + 1 else 0) ≤ k + 1 ∧ p + (if 48 ≤ c p ∧ c p ≤ 57 then dgN c k (p + 1) + 1 else 0) ≤ n
    by_cases e : 48 ≤ c p ∧ c p ≤ 57
    · rw [if_pos e]
      have w := dgN_b h (k := k) (p := p + 1) (eTx_lt h (by omega))
      omega
    · rw [if_neg e]
      omega
theorem dgN_1 {c : Nat → Int} {k p : Nat} (e : 48 ≤ c p ∧ c p ≤ 57) : dgN c (k + 1) p = dgN c k (p + 1) + 1 := if_pos e
theorem exB_ok {n : Nat} {c : Nat → Int} (h : eTx n c) {p : Nat} (hp : p ≤ n) : exOk n p (exB c p) := by
  unfold exB
  by_cases e1 : 48 ≤ c p ∧ c p ≤ 57
  · rw [if_pos e1]
    have w := dgN_b h (k := 4) hp
    have w2 : dgN c 4 p = dgN c 3 (p + 1) + 1 := dgN_1 e1
    exact Or.inl ⟨rfl, by show p < p + dgN c 4 p; omega, w.2⟩
  · rw [if_neg e1]
    by_cases e2 : 97 ≤ c p ∧ c p ≤ 122
    · rw [if_pos e2]
      exact Or.inl ⟨rfl, Nat.lt_succ_self p, eTx_lt h (by omega)⟩
    · rw [if_neg e2]
      by_cases e3 : c p = 35
      · rw [if_pos e3]
        exact Or.inl ⟨rfl, Nat.lt_succ_self p, eTx_lt h (by omega)⟩
      · rw [if_neg e3]
        exact Or.inr ⟨rfl, hp⟩
theorem exO_ok {n p : Nat} {c : Nat → Int} {x y : ExR} (hx : exOk n p x) (h1 : x.1 = 1) (hy : exOk n (x.2.1 + 1) y) : exOk n p (exO c x y) := by
  unfold exO
  unfold exOk at hx
  rcases hy with q | q
  · rw [if_pos q.1]
    exact Or.inl ⟨rfl, by show p < y.2.1; omega, q.2.2⟩
  · rw [if_neg (by omega)]
    exact Or.inr q
theorem exLp_ok {n p : Nat} {c : Nat → Int} (h : eTx n c) {a b d : Int} (ha : a ≠ -1 ∧ b ≠ -1 ∧ d ≠ -1) {A : Nat → ExR} (hA : ∀ p, p ≤ n → exOk n p (A p)) : ∀ {m : Nat} {x : ExR}, exOk n p x → exOk n p (exLp c a b d A m x)
  | 0, x, hx => hx
  | m + 1, x, hx => by
    show exOk n p (if x.1 = 1 ∧ (c x.2.1 = a ∨ c x.2.1 = b ∨ c x.2.1 = d) then exLp c a b d A m (exO c x (A (x.2.1 + 1))) else x)
    by_cases e : x.1 = 1 ∧ (c x.2.1 = a ∨ c x.2.1 = b ∨ c x.2.1 = d)
    · rw [if_pos e]
      exact exLp_ok h ha hA (exO_ok hx e.1 (hA _ (eTx_lt h (by omega))))
    · rw [if_neg e]
      exact hx
theorem exPr_ok {n : Nat} {c : Nat → Int} (h : eTx n c) {A : Nat → ExR} (hA : ∀ p, p ≤ n → exOk n p (A p)) {p : Nat} (hp : p ≤ n) : exOk n p (exPr c A p) := exLp_ok h (by decide) hA (hA p hp)
theorem exSm_ok {n : Nat} {c : Nat → Int} (h : eTx n c) {A : Nat → ExR} (hA : ∀ p, p ≤ n → exOk n p (A p)) {p : Nat} (hp : p ≤ n) : exOk n p (exSm c A p) := exLp_ok h (by decide) (fun q hq => exPr_ok h hA hq) (exPr_ok h hA hp)
theorem exCm_ok {n : Nat} {c : Nat → Int} (h : eTx n c) {A : Nat → ExR} (hA : ∀ p, p ≤ n → exOk n p (A p)) {p : Nat} (hp : p ≤ n) : exOk n p (exCm c A p) := by
  have w := exSm_ok h hA hp
  unfold exCm exC1
  by_cases e : (exSm c A p).1 = 1 ∧ (c (exSm c A p).2.1 = 60 ∨ c (exSm c A p).2.1 = 61)
  · rw [if_pos e]
    exact exO_ok w e.1 (exSm_ok h hA (eTx_lt h (by omega)))
  · rw [if_neg e]
    exact w
theorem exAt_ok {n : Nat} {c : Nat → Int} (h : eTx n c) : ∀ {r p : Nat}, p ≤ n → exOk n p (exAt c r p)
  | 0, p, hp => exB_ok h hp
  | r + 1, p, hp => by
    have hA : ∀ p, p ≤ n → exOk n p (exAt c r p) := fun p hp => exAt_ok h hp
    show exOk n p (if c p = 40 then exPa c (exCm c (exAt c r) (p + 1)) else if c p = 45 then exUn 95 (exAt c r (p + 1)) else if c p = 39 then exUn 39 (exAt c r (p + 1)) else if c p = 64 then exFd c (exAt c r (p + 1)) else exB c p)
    by_cases e1 : c p = 40
    · rw [if_pos e1]
      have w := exCm_ok h hA (p := p + 1) (eTx_lt h (by omega))
      unfold exPa
      rcases w with w | w
      · rw [if_pos w.1]
        by_cases e : c (exCm c (exAt c r) (p + 1)).2.1 = 41
        · rw [if_pos e]
          exact Or.inl ⟨rfl, by show p < (exCm c (exAt c r) (p + 1)).2.1 + 1; omega, eTx_lt h (by omega)⟩
        · rw [if_neg e]
          exact Or.inr ⟨rfl, w.2.2⟩
      · rw [if_neg (by omega)]
        exact Or.inr w
    · rw [if_neg e1]
      have hun : ∀ u, c p ≠ -1 → exOk n p (exUn u (exAt c r (p + 1))) := fun u hu => by
        have w := hA (p + 1) (eTx_lt h hu)
        unfold exUn
        rcases w with w | w
        · rw [if_pos w.1]
          exact Or.inl ⟨rfl, by show p < (exAt c r (p + 1)).2.1; omega, w.2.2⟩
        · rw [if_neg (by omega)]
          exact Or.inr w
      by_cases e2 : c p = 45
      · rw [if_pos e2]; exact hun 95 (by omega)
      · rw [if_neg e2]
        by_cases e3 : c p = 39
        · rw [if_pos e3]; exact hun 39 (by omega)
        · rw [if_neg e3]
          by_cases e4 : c p = 64
          · rw [if_pos e4]
            have w := hA (p + 1) (eTx_lt h (by omega))
            unfold exFd
            rcases w with w | w
            · rw [if_pos w.1]
              by_cases e5 : c (exAt c r (p + 1)).2.1 = 58
              · rw [if_pos e5]
                have hl := eTx_lt h (p := (exAt c r (p + 1)).2.1) (by omega)
                by_cases e6 : 48 ≤ c ((exAt c r (p + 1)).2.1 + 1) ∧ c ((exAt c r (p + 1)).2.1 + 1) ≤ 53
                · rw [if_pos e6]
                  exact Or.inl ⟨rfl, by show p < (exAt c r (p + 1)).2.1 + 2; omega, eTx_lt h (by omega)⟩
                · rw [if_neg e6]
                  exact Or.inr ⟨rfl, hl⟩
              · rw [if_neg e5]
                exact Or.inr ⟨rfl, w.2.2⟩
            · rw [if_neg (by omega)]
              exact Or.inr w
          · rw [if_neg e4]
            exact exB_ok h hp
theorem exEx_ok {n : Nat} {c : Nat → Int} (h : eTx n c) {r p : Nat} (hp : p ≤ n) : exOk n p (exEx c r p) := exCm_ok h (fun _ hq => exAt_ok h hq) hp
/-- the reader's object: its text -/
def zEt (k n : Nat) (c : Nat → Int) (I : ZI) : Prop := I k 1 = n ∧ eTx n c ∧ ∀ p : Nat, p < n → I (k + 1) p = c p
theorem zEt_fr {k n : Nat} {c : Nat → Int} {I I' : ZI} (h : zEt k n c I) (hf : ∀ x j : Nat, (x = k ∧ j = 1) ∨ x = k + 1 → I' x j = I x j) : zEt k n c I' := ⟨(hf k 1 (by omega)).trans h.1, h.2.1, fun p hp => (hf _ _ (by omega)).trans (h.2.2 p hp)⟩
/-- what a reading leaves: place and fault -/
def zEr (k m : Nat) (x : ExR) (I : ZI) : Prop := (x.1 = 1 ∧ I k 2 = x.2.1 ∧ I k 3 = -1) ∨ (x.1 = 0 ∧ I k 3 = x.2.1 ∧ 0 ≤ I k 2 ∧ I k 2 ≤ m)
theorem zEr_fr {k m : Nat} {x : ExR} {I I' : ZI} (h : zEr k m x I) (hf : ∀ y j : Nat, y = k ∧ (j = 2 ∨ j = 3) → I' y j = I y j) : zEr k m x I' := by
  unfold zEr at *
  rw [hf k 2 (by omega), hf k 3 (by omega)]
  exact h
theorem zEr_m {k m m' : Nat} {x : ExR} {I : ZI} (h : zEr k m x I) (hm : m ≤ m') : zEr k m' x I := by
  rcases h with h | h
  · exact Or.inl h
  · exact Or.inr ⟨h.1, h.2.1, h.2.2.1, by omega⟩
theorem zEr_mk {k m : Nat} {x : ExR} {I : ZI} {a b : Int} (ha : I k 2 = a) (hb : I k 3 = b) (h : (x.1 = 1 ∧ a = x.2.1 ∧ b = -1) ∨ (x.1 = 0 ∧ b = x.2.1 ∧ 0 ≤ a ∧ a ≤ m)) : zEr k m x I := by
  unfold zEr
  rw [ha, hb]
  exact h
theorem dgN_in {c : Nat → Int} : ∀ {k p j : Nat}, j < dgN c k p → 48 ≤ c (p + j) ∧ c (p + j) ≤ 57
  | 0, p, j, h => absurd h (Nat.not_lt_zero j)
  | k + 1, p, j, h => by
    by_cases e : 48 ≤ c p ∧ c p ≤ 57
    · rw [dgN_1 e] at h
      rcases j with _ | j
      · exact e
      · have w := dgN_in (c := c) (k := k) (p := p + 1) (j := j) (by omega)
        rw [show p + 1 + j = p + (j + 1) by omega] at w
        exact w
    · have z : dgN c (k + 1) p = 0 := if_neg e
      omega
theorem dgN_no {c : Nat → Int} : ∀ {k p : Nat}, dgN c k p < k → ¬ (48 ≤ c (p + dgN c k p) ∧ c (p + dgN c k p) ≤ 57)
  | 0, p, h => absurd h (Nat.not_lt_zero _)
  | k + 1, p, h => by
    by_cases e : 48 ≤ c p ∧ c p ≤ 57
    · rw [dgN_1 e] at h ⊢
      have w := dgN_no (c := c) (k := k) (p := p + 1) (by omega)
      rw [show p + 1 + dgN c k (p + 1) = p + (dgN c k (p + 1) + 1) by omega] at w
      exact w
    · have z : dgN c (k + 1) p = 0 := if_neg e
      rw [z]
      exact e
theorem exB_d {c : Nat → Int} {p : Nat} (h : 48 ≤ c p ∧ c p ≤ 57) : exB c p = (1, p + dgN c 4 p, [(48, dgV c (dgN c 4 p) p 0)]) := if_pos h
theorem exB_v {c : Nat → Int} {p : Nat} (h : 97 ≤ c p ∧ c p ≤ 122) : exB c p = (1, p + 1, [(97, c p - 97)]) := (if_neg (by omega)).trans (if_pos h)
theorem exB_h {c : Nat → Int} {p : Nat} (h : c p = 35) : exB c p = (1, p + 1, [(35, 0)]) := (if_neg (by omega)).trans ((if_neg (by omega)).trans (if_pos h))
theorem exB_f {c : Nat → Int} {p : Nat} (h1 : ¬ (48 ≤ c p ∧ c p ≤ 57)) (h2 : ¬ (97 ≤ c p ∧ c p ≤ 122)) (h3 : ¬ c p = 35) : exB c p = exF p := (if_neg h1).trans ((if_neg h2).trans (if_neg h3))
theorem exAt_B {c : Nat → Int} : ∀ {r p : Nat}, (c p ≠ 40 ∧ c p ≠ 45 ∧ c p ≠ 39 ∧ c p ≠ 64) → exAt c r p = exB c p
  | 0, p, _ => rfl
  | r + 1, p, h => (if_neg h.1).trans ((if_neg h.2.1).trans ((if_neg h.2.2.1).trans (if_neg h.2.2.2)))
theorem exAt_0 {c : Nat → Int} {p : Nat} : exAt c 0 p = exB c p := rfl
theorem exAt_p {c : Nat → Int} {r p : Nat} (h : c p = 40) : exAt c (r + 1) p = exPa c (exEx c r (p + 1)) := if_pos h
theorem exAt_m {c : Nat → Int} {r p : Nat} (h : c p = 45) : exAt c (r + 1) p = exUn 95 (exAt c r (p + 1)) := (if_neg (by omega)).trans (if_pos h)
theorem exAt_q {c : Nat → Int} {r p : Nat} (h : c p = 39) : exAt c (r + 1) p = exUn 39 (exAt c r (p + 1)) := (if_neg (by omega)).trans ((if_neg (by omega)).trans (if_pos h))
theorem exAt_a {c : Nat → Int} {r p : Nat} (h : c p = 64) : exAt c (r + 1) p = exFd c (exAt c r (p + 1)) := (if_neg (by omega)).trans ((if_neg (by omega)).trans ((if_neg (by omega)).trans (if_pos h)))
theorem exLp_0 {c : Nat → Int} {a b d : Int} {A : Nat → ExR} {n : Nat} {x : ExR} (h : ¬ (x.1 = 1 ∧ (c x.2.1 = a ∨ c x.2.1 = b ∨ c x.2.1 = d))) : exLp c a b d A n x = x := by
  cases n with
  | zero => rfl
  | succ n => exact if_neg h
theorem exLp_1 {c : Nat → Int} {a b d : Int} {A : Nat → ExR} {n : Nat} {x : ExR} (h : x.1 = 1 ∧ (c x.2.1 = a ∨ c x.2.1 = b ∨ c x.2.1 = d)) : exLp c a b d A (n + 1) x = exLp c a b d A n (exO c x (A (x.2.1 + 1))) := if_pos h
theorem zEr_O {k m : Nat} {c : Nat → Int} {x y : ExR} {I : ZI} (h : zEr k m y I) : zEr k m (exO c x y) I := by
  unfold exO zEr at *
  rcases h with h | h
  · rw [if_pos h.1]
    exact Or.inl ⟨rfl, h.2⟩
  · rw [if_neg (by omega)]
    exact Or.inr h
theorem zEr_U {k m : Nat} {u : Int} {x : ExR} {I : ZI} (h : zEr k m x I) : zEr k m (exUn u x) I := by
  unfold exUn zEr at *
  rcases h with h | h
  · rw [if_pos h.1]
    exact Or.inl ⟨rfl, h.2⟩
  · rw [if_neg (by omega)]
    exact Or.inr h
