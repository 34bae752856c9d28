/-! ey: SCRIPTS: statements and blocks, as a text has them (a reading: flag, place, statements, where blocks end, where functions begin) -/
abbrev StR : Type := Nat × Nat × Nat × (Nat → Int) × (Nat → Int)
def srF (x : StR) (p : Nat) : StR := (0, p, x.2.2)
def srP (x : StR) (p : Nat) : StR := (1, p, x.2.2)
def srE (x : StR) (y : ExR) : StR := (y.1, y.2.1, x.2.2)
def srC (x : StR) : StR := (x.1, x.2.1, x.2.2.1 + 1, x.2.2.2)
/-- behind a block's statements y, that began at p -/
def srD (c : Nat → Int) (cl : Int) (p : Nat) (y : StR) : StR := if y.1 = 1 then (if c y.2.1 = cl then (1, y.2.1 + 1, y.2.2.1, upF y.2.2.2.1 p (y.2.1 : Int), y.2.2.2.2) else srF y y.2.1) else y
/-- a block where one may stand (Ls reads its statements), and where none may -/
def srB (c : Nat → Int) (Ls : Int → StR → StR) (op cl : Int) (x : StR) : StR := if x.1 = 1 then (if c x.2.1 = op then srD c cl x.2.1 (Ls cl (srP x (x.2.1 + 1))) else srF x x.2.1) else x
def srB0 (_ _ : Int) (x : StR) : StR := if x.1 = 1 then srF x x.2.1 else x
/-- a function, behind its colon at p -/
def srFn (c : Nat → Int) (Bk : Int → Int → StR → StR) (top : Bool) (p : Nat) (x : StR) : StR := if 65 ≤ c (p + 1) ∧ c (p + 1) ≤ 90 then (if top = true ∧ x.2.2.2.2 (c (p + 1) - 65).toNat = -1 then Bk 123 125 (1, p + 2, x.2.2.1, x.2.2.2.1, upF x.2.2.2.2 (c (p + 1) - 65).toNat ((p + 2 : Nat) : Int)) else srF x p) else srF x (p + 1)
def srQ (c : Nat → Int) (Bk : Int → Int → StR → StR) (x : StR) : StR := if x.1 = 1 ∧ c x.2.1 = 123 then Bk 123 125 x else x
/-- a statement at p -/
def srS (c : Nat → Int) (Bk : Int → Int → StR → StR) (top : Bool) (p : Nat) (x : StR) : StR :=
  if c p = 91 then Bk 91 93 x else if c p = 58 then srFn c Bk top p x else if c p = 126 then Bk 123 125 (Bk 123 125 (srP x (p + 1))) else if c p = 42 then Bk 123 125 (srE x (exEx c 3 (p + 1))) else if c p = 63 then srQ c Bk (Bk 123 125 (srE x (exEx c 3 (p + 1)))) else srE x (stS c p)
def srT (c : Nat → Int) (Bk : Int → Int → StR → StR) (top : Bool) (x : StR) : StR := if 100 ≤ x.2.2.1 then srF x x.2.1 else srS c Bk top x.2.1 (srC x)
/-- statements up to a sign -/
def srL (c : Nat → Int) (St : StR → StR) (cl : Int) : Nat → StR → StR
  | 0, x => x
  | n + 1, x => if x.1 = 1 ∧ c x.2.1 ≠ cl then srL c St cl n (if c x.2.1 = 10 then srP x (x.2.1 + 1) else St x) else x
/-- the readers by depth: 2 the innermost -/
def bk2 (_ : Nat → Int) : Int → Int → StR → StR := srB0
def ls2 (c : Nat → Int) (cl : Int) (x : StR) : StR := srL c (srT c (bk2 c) false) cl 401 x
def bk1 (c : Nat → Int) : Int → Int → StR → StR := srB c (ls2 c)
def ls1 (c : Nat → Int) (cl : Int) (x : StR) : StR := srL c (srT c (bk1 c) false) cl 401 x
def bk0 (c : Nat → Int) : Int → Int → StR → StR := srB c (ls1 c)
def ls0 (c : Nat → Int) (cl : Int) (x : StR) : StR := srL c (srT c (bk0 c) true) cl 401 x
/-- it ends within the text, and no earlier than it began -/
def srW (n p : Nat) (x : StR) : Prop := (x.1 = 1 ∧ p ≤ x.2.1 ∧ x.2.1 ≤ n) ∨ (x.1 = 0 ∧ x.2.1 ≤ n)
def bkW (n : Nat) (Bk : Int → Int → StR → StR) : Prop := ∀ op cl p x, op ≠ -1 → cl ≠ -1 → srW n p x → srW n p (Bk op cl x)
theorem srB0_W {n : Nat} : bkW n srB0 := fun op cl p x _ _ h => by
  unfold srB0
  rcases h with h | h
  · rw [if_pos h.1]; exact Or.inr ⟨rfl, h.2.2⟩
  · rw [if_neg (by omega)]; exact Or.inr h
theorem srL_W {n p : Nat} {c : Nat → Int} (hc : eTx n c) {St : StR → StR} (hS : ∀ x, x.1 = 1 → srW n p x → srW n p (St x)) {cl : Int} : ∀ {m : Nat} {x : StR}, srW n p x → srW n p (srL c St cl m x)
  | 0, x, h => h
  | m + 1, x, h => by
    show srW n p (if x.1 = 1 ∧ c x.2.1 ≠ cl then srL c St cl m (if c x.2.1 = 10 then srP x (x.2.1 + 1) else St x) else x)
    by_cases e : x.1 = 1 ∧ c x.2.1 ≠ cl
    · rw [if_pos e]
      refine srL_W hc hS ?_
      by_cases e2 : c x.2.1 = 10
      · rw [if_pos e2]
        have hl := eTx_lt hc (p := x.2.1) (by omega)
        rcases h with h | h
        · exact Or.inl ⟨rfl, by show p ≤ x.2.1 + 1; omega, hl⟩
        · omega
      · rw [if_neg e2]
        exact hS x e.1 h
    · rw [if_neg e]
      exact h
theorem srE_W {n p : Nat} {x : StR} {y : ExR} (h : (y.1 = 1 ∧ p ≤ y.2.1 ∧ y.2.1 ≤ n) ∨ (y.1 = 0 ∧ y.2.1 ≤ n)) : srW n p (srE x y) := h
theorem srB_W {n : Nat} {c : Nat → Int} (hc : eTx n c) {Ls : Int → StR → StR} (hL : ∀ cl p x, srW n p x → srW n p (Ls cl x)) : bkW n (srB c Ls) := fun op cl p x h1 h2 h => by
  unfold srB
  rcases h with h | h
  · rw [if_pos h.1]
    by_cases e : c x.2.1 = op
    · rw [if_pos e]
      have hl := eTx_lt hc (p := x.2.1) (by omega)
      have w := hL cl p (srP x (x.2.1 + 1)) (Or.inl ⟨rfl, by show p ≤ x.2.1 + 1; omega, hl⟩)
      unfold srD
      rcases w with w | w
      · rw [if_pos w.1]
        by_cases e2 : c (Ls cl (srP x (x.2.1 + 1))).2.1 = cl
        · rw [if_pos e2]
          have hl2 := eTx_lt hc (p := (Ls cl (srP x (x.2.1 + 1))).2.1) (by omega)
          exact Or.inl ⟨rfl, by show p ≤ (Ls cl (srP x (x.2.1 + 1))).2.1 + 1; omega, hl2⟩
        · rw [if_neg e2]
          exact Or.inr ⟨rfl, w.2.2⟩
      · rw [if_neg (by omega)]
        exact Or.inr w
    · rw [if_neg e]
      exact Or.inr ⟨rfl, h.2.2⟩
  · rw [if_neg (by omega)]
    exact Or.inr h
theorem stS_W {n p : Nat} {c : Nat → Int} (hc : eTx n c) (hp : p ≤ n) : exW n (stS c p) := by
  have hI : c p ≠ -1 → exW n (exI (p + 1)) := fun h => ⟨Or.inr rfl, eTx_lt hc h⟩
  unfold stS
  by_cases e1 : 97 ≤ c p ∧ c p ≤ 122
  · rw [if_pos e1]; exact exT_W hc (by decide) (exG_W hc (exT_W hc (by decide) (hI (by omega))))
  · rw [if_neg e1]
    by_cases e2 : 65 ≤ c p ∧ c p ≤ 90
    · rw [if_pos e2]; exact exT_W hc (by decide) (hI (by omega))
    · rw [if_neg e2]
      by_cases e3 : c p = 64
      · rw [if_pos e3]; exact exT_W hc (by decide) (exG_W hc (exT_W hc (by decide) (exFd_W hc (exH_W hc (hI (by omega))))))
      · rw [if_neg e3]
        by_cases e4 : c p = 39
        · rw [if_pos e4]; exact exT_W hc (by decide) (exG_W hc (exT_W hc (by decide) (exH_W hc (hI (by omega)))))
        · rw [if_neg e4]
          by_cases e5 : c p = 33 ∨ c p = 94 ∨ c p = 43 ∨ c p = 38 ∨ c p = 124 ∨ c p = 60
          · rw [if_pos e5]; exact exT_W hc (by decide) (exG_W hc (hI (by omega)))
          · rw [if_neg e5]; exact ⟨Or.inl rfl, hp⟩
/-- what the class's reader leaves -/
def zSr (k M : Nat) (x : StR) (I : ZI) : Prop := (x.1 = 1 ∧ (I k 2 = x.2.1 ∧ I k 3 = -1 ∧ I k 4 = x.2.2.1) ∧ (∀ p : Nat, p < 400 → I (k + 2) p = x.2.2.2.1 p) ∧ ∀ f : Nat, f < 26 → I (k + 3) f = x.2.2.2.2 f) ∨ (x.1 = 0 ∧ (I k 3 = x.2.1 ∧ 0 ≤ I k 2 ∧ I k 2 ≤ M) ∧ 0 ≤ I k 4 ∧ I k 4 ≤ 200)
theorem zSr_fr {k M : Nat} {x : StR} {I I' : ZI} (h : zSr k M x I) (hf : ∀ c j : Nat, (c = k ∧ 2 ≤ j ∧ j ≤ 4) ∨ c = k + 2 ∨ c = k + 3 → I' c j = I c j) : zSr k M x I' := by
  unfold zSr at *
  rw [hf k 2 (by omega), hf k 3 (by omega), hf k 4 (by omega)]
  rcases h with h | h
  · exact Or.inl ⟨h.1, h.2.1, fun p hp => (hf _ _ (by omega)).trans (h.2.2.1 p hp), fun f hf' => (hf _ _ (by omega)).trans (h.2.2.2 f hf')⟩
  · exact Or.inr h
theorem zSr_n {k M : Nat} {x : StR} {I : ZI} (h : zSr k M x I) : (x.1 = 1 ∧ I k 2 = x.2.1 ∧ I k 3 = -1 ∧ I k 4 = x.2.2.1) ∨ (x.1 = 0 ∧ I k 3 = x.2.1 ∧ 0 ≤ I k 2 ∧ I k 2 ≤ M ∧ 0 ≤ I k 4 ∧ I k 4 ≤ 200) := by
  rcases h with h | h
  · exact Or.inl ⟨h.1, h.2.1⟩
  · exact Or.inr ⟨h.1, h.2.1.1, h.2.1.2.1, h.2.1.2.2, h.2.2⟩
theorem zSr_F {k M : Nat} {x : StR} {p : Nat} {I : ZI} (h3 : I k 3 = p) (h2 : 0 ≤ I k 2 ∧ I k 2 ≤ M) (h4 : 0 ≤ I k 4 ∧ I k 4 ≤ 200) : zSr k M (srF x p) I := Or.inr ⟨rfl, ⟨h3, h2.1, h2.2⟩, h4⟩
