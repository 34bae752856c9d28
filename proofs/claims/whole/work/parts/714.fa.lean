/-! fa: SCRIPTS: readings of statements end within the text, and of no more than 100 -/
def srV (n p : Nat) (x : StR) : Prop := (x.1 = 1 ∧ p ≤ x.2.1 ∧ x.2.1 ≤ n ∧ x.2.2.1 ≤ 100) ∨ (x.1 = 0 ∧ x.2.1 ≤ n)
def bkV (n : Nat) (Bk : Int → Int → StR → StR) : Prop := ∀ op cl p x, op ≠ -1 → cl ≠ -1 → srV n p x → srV n p (Bk op cl x)
theorem srV_p {n p p' : Nat} {x : StR} (h : srV n p x) (hp : p' ≤ p) : srV n p' x := by
  rcases h with h | h
  · exact Or.inl ⟨h.1, by omega, h.2.2⟩
  · exact Or.inr h
theorem srB0_V {n : Nat} : bkV n srB0 := fun op cl p x _ _ h => by
  unfold srB0
  rcases h with h | h
  · rw [if_pos h.1]; exact Or.inr ⟨rfl, h.2.2.1⟩
  · rw [if_neg (by omega)]; exact Or.inr h
theorem srL_V {n p : Nat} {c : Nat → Int} (hc : eTx n c) {St : StR → StR} (hS : ∀ x, x.1 = 1 → srV n p x → srV n p (St x)) {cl : Int} (hcl : ∀ x : StR, x.1 = 1 → c x.2.1 ≠ cl → c x.2.1 = 10 → srV n p x → x.2.1 < n) : ∀ {m : Nat} {x : StR}, srV n p x → srV n p (srL c St cl m x)
  | 0, x, h => h
  | m + 1, x, h => by
    show srV n p (if x.1 = 1 ∧ c x.2.1 ≠ cl then srL c St cl m (if c x.2.1 = 10 then srP x (x.2.1 + 1) else St x) else x)
    by_cases e : x.1 = 1 ∧ c x.2.1 ≠ cl
    · rw [if_pos e]
      refine srL_V hc hS hcl ?_
      by_cases e2 : c x.2.1 = 10
      · rw [if_pos e2]
        have hl := eTx_lt hc (p := x.2.1) (by omega)
        rcases h with h | h
        · exact Or.inl ⟨rfl, by show p ≤ x.2.1 + 1; omega, hl, h.2.2.2⟩
        · omega
      · rw [if_neg e2]
        exact hS x e.1 h
    · rw [if_neg e]
      exact h
theorem srB_V {n : Nat} {c : Nat → Int} (hc : eTx n c) {Ls : Int → StR → StR} (hL : ∀ cl p x, srV n p x → srV n p (Ls cl x)) : bkV n (srB c Ls) := fun op cl p x h1 h2 h => by
  unfold srB
  rcases h with h | h
  · rw [if_pos h.1]
    by_cases e : c x.2.1 = op
    · rw [if_pos e]
      have hl := eTx_lt hc (p := x.2.1) (by omega)
      have w := hL cl p (srP x (x.2.1 + 1)) (Or.inl ⟨rfl, by show p ≤ x.2.1 + 1; omega, hl, h.2.2.2⟩)
      unfold srD
      rcases w with w | w
      · rw [if_pos w.1]
        by_cases e2 : c (Ls cl (srP x (x.2.1 + 1))).2.1 = cl
        · rw [if_pos e2]
          have hl2 := eTx_lt hc (p := (Ls cl (srP x (x.2.1 + 1))).2.1) (by omega)
          exact Or.inl ⟨rfl, by show p ≤ (Ls cl (srP x (x.2.1 + 1))).2.1 + 1; omega, hl2, w.2.2.2⟩
        · rw [if_neg e2]
          exact Or.inr ⟨rfl, w.2.2.1⟩
      · rw [if_neg (by omega)]
        exact Or.inr w
    · rw [if_neg e]
      exact Or.inr ⟨rfl, h.2.2.1⟩
  · rw [if_neg (by omega)]
    exact Or.inr h
theorem srE_V {n p : Nat} {x : StR} {y : ExR} (h : exOk n p y) (hx : x.2.2.1 ≤ 100) : srV n p (srE x y) := by
  rcases h with h | h
  · exact Or.inl ⟨h.1, Nat.le_of_lt h.2.1, h.2.2, hx⟩
  · exact Or.inr h
theorem exT_pl {n p : Nat} {c : Nat → Int} {u : Int} {x : ExR} (hc : eTx n c) (hu : u ≠ -1) (h : exOk n p x) : exOk n p (exT c u x) := by
  unfold exT
  rcases h with h | h
  · rw [if_pos h.1]
    by_cases e2 : c x.2.1 = u
    · rw [if_pos e2]
      exact Or.inl ⟨rfl, by show p < x.2.1 + 1; omega, eTx_lt hc (by omega)⟩
    · rw [if_neg e2]
      exact Or.inr ⟨rfl, h.2.2⟩
  · rw [if_neg (by omega)]
    exact Or.inr h
theorem exG_pl {n p : Nat} {c : Nat → Int} {x : ExR} (hc : eTx n c) (h : exOk n p x) : exOk n p (exG c x) := by
  unfold exG
  rcases h with h | h
  · rw [if_pos h.1]
    rcases exEx_ok hc (r := 3) h.2.2 with w | w
    · exact Or.inl ⟨w.1, by omega, w.2.2⟩
    · exact Or.inr w
  · rw [if_neg (by omega)]
    exact Or.inr h
theorem exH_pl {n p : Nat} {c : Nat → Int} {x : ExR} (hc : eTx n c) (h : exOk n p x) : exOk n p (exH c x) := by
  unfold exH
  rcases h with h | h
  · rw [if_pos h.1]
    rcases exAt_ok hc (r := 3) h.2.2 with w | w
    · exact Or.inl ⟨w.1, by omega, w.2.2⟩
    · exact Or.inr w
  · rw [if_neg (by omega)]
    exact Or.inr h
theorem exFd_pl {n p : Nat} {c : Nat → Int} {x : ExR} (hc : eTx n c) (h : exOk n p x) : exOk n p (exFd c x) := by
  unfold exFd
  rcases h with h | h
  · rw [if_pos h.1]
    by_cases e2 : c x.2.1 = 58
    · rw [if_pos e2]
      have hl := eTx_lt hc (p := x.2.1) (by omega)
      by_cases e3 : 48 ≤ c (x.2.1 + 1) ∧ c (x.2.1 + 1) ≤ 53
      · rw [if_pos e3]
        exact Or.inl ⟨rfl, by show p < x.2.1 + 2; omega, eTx_lt hc (by omega)⟩
      · rw [if_neg e3]
        exact Or.inr ⟨rfl, hl⟩
    · rw [if_neg e2]
      exact Or.inr ⟨rfl, h.2.2⟩
  · rw [if_neg (by omega)]
    exact Or.inr h
theorem stS_pl {n p : Nat} {c : Nat → Int} (hc : eTx n c) (hp : p ≤ n) : exOk n p (stS c p) := by
  have hI : c p ≠ -1 → exOk n p (exI (p + 1)) := fun h => Or.inl ⟨rfl, Nat.lt_succ_self p, eTx_lt hc h⟩
  unfold stS
  by_cases e1 : 97 ≤ c p ∧ c p ≤ 122
  · rw [if_pos e1]; exact exT_pl hc (by decide) (exG_pl hc (exT_pl hc (by decide) (hI (by omega))))
  · rw [if_neg e1]
    by_cases e2 : 65 ≤ c p ∧ c p ≤ 90
    · rw [if_pos e2]; exact exT_pl hc (by decide) (hI (by omega))
    · rw [if_neg e2]
      by_cases e3 : c p = 64
      · rw [if_pos e3]; exact exT_pl hc (by decide) (exG_pl hc (exT_pl hc (by decide) (exFd_pl hc (exH_pl hc (hI (by omega))))))
      · rw [if_neg e3]
        by_cases e4 : c p = 39
        · rw [if_pos e4]; exact exT_pl hc (by decide) (exG_pl hc (exT_pl hc (by decide) (exH_pl hc (hI (by omega)))))
        · rw [if_neg e4]
          by_cases e5 : c p = 33 ∨ c p = 94 ∨ c p = 43 ∨ c p = 38 ∨ c p = 124 ∨ c p = 60
          · rw [if_pos e5]; exact exT_pl hc (by decide) (exG_pl hc (hI (by omega)))
          · rw [if_neg e5]; exact Or.inr ⟨rfl, hp⟩
theorem srF_V {n p q : Nat} {x : StR} (h : q ≤ n) : srV n p (srF x q) := Or.inr ⟨rfl, h⟩
theorem srFn_V {n p : Nat} {c : Nat → Int} (hc : eTx n c) {Bk : Int → Int → StR → StR} (hB : bkV n Bk) {top : Bool} {x : StR} (hp : p < n) (h : x.2.2.1 ≤ 100) : srV n p (srFn c Bk top p x) := by
  unfold srFn
  by_cases e : 65 ≤ c (p + 1) ∧ c (p + 1) ≤ 90
  · rw [if_pos e]
    have hl := eTx_lt hc (p := p + 1) (by omega)
    by_cases e2 : top = true ∧ x.2.2.2.2 (c (p + 1) - 65).toNat = -1
    · rw [if_pos e2]
      exact hB _ _ p _ (by decide) (by decide) (Or.inl ⟨rfl, by show p ≤ p + 2; omega, hl, h⟩)
    · rw [if_neg e2]
      exact srF_V (by omega)
  · rw [if_neg e]
    exact srF_V hp
theorem srQ_V {n p : Nat} {c : Nat → Int} {Bk : Int → Int → StR → StR} (hB : bkV n Bk) {x : StR} (h : srV n p x) : srV n p (srQ c Bk x) := by
  unfold srQ
  by_cases e : x.1 = 1 ∧ c x.2.1 = 123
  · rw [if_pos e]; exact hB _ _ p _ (by decide) (by decide) h
  · rw [if_neg e]; exact h
theorem srS_V {n p : Nat} {c : Nat → Int} (hc : eTx n c) {Bk : Int → Int → StR → StR} (hB : bkV n Bk) {top : Bool} {x : StR} (h1 : x.1 = 1) (hpx : x.2.1 = p) (hp : p ≤ n) (h : x.2.2.1 ≤ 100) : srV n p (srS c Bk top p x) := by
  unfold srS
  have hE : c p ≠ -1 → srV n p (srE x (exEx c 3 (p + 1))) := fun hh => srV_p (srE_V (exEx_ok hc (eTx_lt hc hh)) h) (Nat.le_succ p)
  by_cases e1 : c p = 91
  · rw [if_pos e1]; exact hB _ _ p _ (by decide) (by decide) (Or.inl ⟨h1, by omega, by omega, h⟩)
  · rw [if_neg e1]
    by_cases e2 : c p = 58
    · rw [if_pos e2]; exact srFn_V hc hB (eTx_lt hc (by omega)) h
    · rw [if_neg e2]
      by_cases e3 : c p = 126
      · rw [if_pos e3]
        exact hB _ _ p _ (by decide) (by decide) (hB _ _ p _ (by decide) (by decide) (Or.inl ⟨rfl, by show p ≤ p + 1; omega, eTx_lt hc (by omega), h⟩))
      · rw [if_neg e3]
        by_cases e4 : c p = 42
        · rw [if_pos e4]; exact hB _ _ p _ (by decide) (by decide) (hE (by omega))
        · rw [if_neg e4]
          by_cases e5 : c p = 63
          · rw [if_pos e5]; exact srQ_V hB (hB _ _ p _ (by decide) (by decide) (hE (by omega)))
          · rw [if_neg e5]; exact srE_V (stS_pl hc hp) h
theorem srT_V {n p : Nat} {c : Nat → Int} (hc : eTx n c) {Bk : Int → Int → StR → StR} (hB : bkV n Bk) {top : Bool} {x : StR} (h1 : x.1 = 1) (h : srV n p x) : srV n p (srT c Bk top x) := by
  unfold srT
  rcases h with h | h
  · by_cases e : 100 ≤ x.2.2.1
    · rw [if_pos e]; exact srF_V h.2.2.1
    · rw [if_neg e]
      exact srV_p (srS_V hc hB (x := srC x) h1 rfl h.2.2.1 (by show x.2.2.1 + 1 ≤ 100; omega)) h.2.1
  · omega
theorem bk2_V {n : Nat} {c : Nat → Int} : bkV n (bk2 c) := srB0_V
theorem ls2_V {n : Nat} {c : Nat → Int} (hc : eTx n c) {cl : Int} {p : Nat} {x : StR} (h : srV n p x) : srV n p (ls2 c cl x) := srL_V hc (fun _ h1 h2 => srT_V hc bk2_V h1 h2) (fun y h1 _ h3 _ => eTx_lt hc (by omega)) h
theorem bk1_V {n : Nat} {c : Nat → Int} (hc : eTx n c) : bkV n (bk1 c) := srB_V hc (fun _ _ _ h => ls2_V hc h)
theorem ls1_V {n : Nat} {c : Nat → Int} (hc : eTx n c) {cl : Int} {p : Nat} {x : StR} (h : srV n p x) : srV n p (ls1 c cl x) := srL_V hc (fun _ h1 h2 => srT_V hc (bk1_V hc) h1 h2) (fun y h1 _ h3 _ => eTx_lt hc (by omega)) h
theorem bk0_V {n : Nat} {c : Nat → Int} (hc : eTx n c) : bkV n (bk0 c) := srB_V hc (fun _ _ _ h => ls1_V hc h)
theorem ls0_V {n : Nat} {c : Nat → Int} (hc : eTx n c) {cl : Int} {p : Nat} {x : StR} (h : srV n p x) : srV n p (ls0 c cl x) := srL_V hc (fun _ h1 h2 => srT_V hc (bk0_V hc) h1 h2) (fun y h1 _ h3 _ => eTx_lt hc (by omega)) h
theorem zSr_f {k M : Nat} {x : StR} {p : Nat} {I : ZI} {a b d : Int} (h2 : I k 2 = a) (h3 : I k 3 = b) (h4 : I k 4 = d) (hb : b = p) (ha : 0 ≤ a ∧ a ≤ M) (hd : 0 ≤ d ∧ d ≤ 200) : zSr k M (srF x p) I := Or.inr ⟨rfl, ⟨h3.trans hb, by omega, by omega⟩, by omega, by omega⟩
theorem zSr_g {k M : Nat} {x : StR} {I : ZI} {a b d : Int} (h1 : x.1 = 1) (h2 : I k 2 = a) (h3 : I k 3 = b) (h4 : I k 4 = d) (ha : a = x.2.1) (hb : b = -1) (hd : d = x.2.2.1) (h5 : ∀ p : Nat, p < 400 → I (k + 2) p = x.2.2.2.1 p) (h6 : ∀ f : Nat, f < 26 → I (k + 3) f = x.2.2.2.2 f) : zSr k M x I := Or.inl ⟨h1, ⟨h2.trans ha, h3.trans hb, h4.trans hd⟩, h5, h6⟩
theorem zSr_e {k m M : Nat} {x : StR} {y : ExR} {I : ZI} (h : zEr k m y I) (hm : m ≤ M) {d : Int} (h4 : I k 4 = d) (hd : d = x.2.2.1) (h9 : x.2.2.1 ≤ 200) (h5 : ∀ p : Nat, p < 400 → I (k + 2) p = x.2.2.2.1 p) (h6 : ∀ f : Nat, f < 26 → I (k + 3) f = x.2.2.2.2 f) : zSr k M (srE x y) I := by
  rcases h with h | h
  · exact Or.inl ⟨h.1, ⟨h.2.1, h.2.2, h4.trans hd⟩, h5, h6⟩
  · exact Or.inr ⟨h.1, ⟨h.2.1, h.2.2.1, by omega⟩, by omega, by omega⟩
theorem srV_n {n p : Nat} {x : StR} (h : srV n p x) : x.2.1 ≤ n ∧ ((x.1 = 1 ∧ x.2.2.1 ≤ 100) ∨ x.1 = 0) := by
  rcases h with h | h
  · exact ⟨h.2.2.1, Or.inl ⟨h.1, h.2.2.2⟩⟩
  · exact ⟨h.2, Or.inr h.1⟩
theorem srS_e {c : Nat → Int} {Bk : Int → Int → StR → StR} {top : Bool} {p : Nat} {x : StR} (h : c p ≠ 63 ∧ c p ≠ 42 ∧ c p ≠ 126 ∧ c p ≠ 91 ∧ c p ≠ 58) : srS c Bk top p x = srE x (stS c p) := (if_neg h.2.2.2.1).trans ((if_neg h.2.2.2.2).trans ((if_neg h.2.2.1).trans ((if_neg h.2.1).trans (if_neg h.1))))
theorem srL_0 {c : Nat → Int} {St : StR → StR} {cl : Int} {n : Nat} {x : StR} (h : ¬ (x.1 = 1 ∧ c x.2.1 ≠ cl)) : srL c St cl n x = x := by
  cases n with
  | zero => rfl
  | succ n => exact if_neg h
theorem srL_a {c : Nat → Int} {St : StR → StR} {cl : Int} {n : Nat} {x : StR} (h : x.1 = 1 ∧ c x.2.1 ≠ cl) (h2 : c x.2.1 = 10) : srL c St cl (n + 1) x = srL c St cl n (srP x (x.2.1 + 1)) := by
  show (if x.1 = 1 ∧ c x.2.1 ≠ cl then srL c St cl n (if c x.2.1 = 10 then srP x (x.2.1 + 1) else St x) else x) = _
  rw [if_pos h, if_pos h2]
theorem srL_b {c : Nat → Int} {St : StR → StR} {cl : Int} {n : Nat} {x : StR} (h : x.1 = 1 ∧ c x.2.1 ≠ cl) (h2 : ¬ c x.2.1 = 10) : srL c St cl (n + 1) x = srL c St cl n (St x) := by
  show (if x.1 = 1 ∧ c x.2.1 ≠ cl then srL c St cl n (if c x.2.1 = 10 then srP x (x.2.1 + 1) else St x) else x) = _
  rw [if_pos h, if_neg h2]
