/-! fm: SCRIPTS: orders and open blocks as they lie -/
def zOl (g k : Nat) (l : CdL) (a : Int) (I : ZI) : Prop := ∃ q : Nat, a = q ∧ q + l.length + 1 ≤ k ∧ zCo (1000 * g + q) (l ++ [(0, 0)]) I ∧ cdH 64 l 0 1
def hsL (kd : Int) : Prop := (1 ≤ kd ∧ kd ≤ 6) ∨ (12 ≤ kd ∧ kd ≤ 16)
def zOr (g k i : Nat) (o : OrT) (I : ZI) : Prop := (I 238 (600 * g + i) = o.1 ∧ I 239 (600 * g + i) = o.2.1 ∧ I 240 (600 * g + i) = o.2.2.1 ∧ I 243 (600 * g + i) = o.2.2.2.2.2) ∧ (o.1 = 2 ∨ o.1 = 3 → zOl g k o.2.2.2.1 (I 241 (600 * g + i)) I) ∧ (hsL o.1 → zOl g k o.2.2.2.2.1 (I 242 (600 * g + i)) I)
theorem zOl_fr {g k k' : Nat} {l : CdL} {a a' : Int} {I I' : ZI} (h : zOl g k l a I) (ha : a' = a) (hk : k ≤ k') (hf : ∀ x j : Nat, x = 245 ∨ x = 246 → j < 1000 * g + k → I' x j = I x j) : zOl g k' l a' I' := by
  obtain ⟨q, h1, h2, h3, h4⟩ := h
  refine ⟨q, ha.trans h1, by omega, zCo_fr h3 (fun x j hx hj => hf x j hx ?_), h4⟩
  rw [List.length_append] at hj
  have hj2 : j < 1000 * g + q + (l.length + 1) := hj
  omega
theorem zOr_fr {g k k' i : Nat} {o : OrT} {I I' : ZI} (h : zOr g k i o I) (hk : k ≤ k') (hf : ∀ x : Nat, 238 ≤ x → x ≤ 243 → I' x (600 * g + i) = I x (600 * g + i)) (hc : ∀ x j : Nat, x = 245 ∨ x = 246 → j < 1000 * g + k → I' x j = I x j) : zOr g k' i o I' := ⟨⟨(hf 238 (by decide) (by decide)).trans h.1.1, (hf 239 (by decide) (by decide)).trans h.1.2.1, (hf 240 (by decide) (by decide)).trans h.1.2.2.1, (hf 243 (by decide) (by decide)).trans h.1.2.2.2⟩, fun q => zOl_fr (h.2.1 q) (hf 241 (by decide) (by decide)) hk hc, fun q => zOl_fr (h.2.2 q) (hf 242 (by decide) (by decide)) hk hc⟩
def orA (g k t : Nat) (r : Nat → OrT) (I : ZI) : Prop := ∀ i, i < t → zOr g k i (r i) I
theorem orA_fr {g k k' t : Nat} {r : Nat → OrT} {I I' : ZI} (h : orA g k t r I) (hk : k ≤ k') (hf : ∀ x j : Nat, 238 ≤ x → x ≤ 243 → j < 600 * g + t → I' x j = I x j) (hc : ∀ x j : Nat, x = 245 ∨ x = 246 → j < 1000 * g + k → I' x j = I x j) : orA g k' t r I' := fun i hi => zOr_fr (h i hi) hk (fun x h1 h2 => hf x _ h1 h2 (by omega)) hc
theorem orA_up {g k k' t : Nat} {r : Nat → OrT} {o : OrT} {I I' : ZI} (h : orA g k t r I) (hk : k ≤ k') (hf : ∀ x j : Nat, 238 ≤ x → x ≤ 243 → j < 600 * g + t → I' x j = I x j) (hc : ∀ x j : Nat, x = 245 ∨ x = 246 → j < 1000 * g + k → I' x j = I x j) (ho : zOr g k' t o I') : orA g k' (t + 1) (upF r t o) I' := fun i hi => by
  unfold upF
  by_cases e : i = t
  · rw [if_pos e, e]; exact ho
  · rw [if_neg e]; exact orA_fr h hk hf hc i (by omega)
theorem orA_ai {g k t of : Nat} {r : Nat → OrT} {v : Int} {I I' : ZI} (h : orA g k t r I) (hf : ∀ x j : Nat, 238 ≤ x → x ≤ 246 → ¬ (x = 243 ∧ j = 600 * g + of) → I' x j = I x j) (hv : I' 243 (600 * g + of) = v) : orA g k t (orG r of v) I' := fun i hi => by
  have w := h i hi
  unfold orG upF
  by_cases e : i = of
  · rw [if_pos e]
    rw [e] at w ⊢
    exact ⟨⟨(hf 238 _ (by decide) (by decide) (by omega)).trans w.1.1, (hf 239 _ (by decide) (by decide) (by omega)).trans w.1.2.1, (hf 240 _ (by decide) (by decide) (by omega)).trans w.1.2.2.1, hv⟩, fun q => zOl_fr (w.2.1 q) (hf 241 _ (by decide) (by decide) (by omega)) (Nat.le_refl k) (fun x j hx _ => hf x j (by omega) (by omega) (by omega)), fun q => zOl_fr (w.2.2 q) (hf 242 _ (by decide) (by decide) (by omega)) (Nat.le_refl k) (fun x j hx _ => hf x j (by omega) (by omega) (by omega))⟩
  · rw [if_neg e]
    exact zOr_fr w (Nat.le_refl k) (fun x h1 h2 => hf x _ h1 (by omega) (by omega)) (fun x j hx _ => hf x j (by omega) (by omega) (by omega))
/-- a plain order: of no codes -/
theorem zOr_0 {g k i : Nat} {kd w gv tg : Int} {I : ZI} (h1 : I 238 (600 * g + i) = kd) (h2 : I 239 (600 * g + i) = w) (h3 : I 240 (600 * g + i) = gv) (h4 : I 243 (600 * g + i) = tg) (hk : ¬ hsL kd) : zOr g k i (kd, w, gv, [], [], tg) I := ⟨⟨h1, h2, h3, h4⟩, fun q => absurd (show hsL kd from Or.inl (by have q2 : kd = 2 ∨ kd = 3 := q; omega)) hk, fun q => absurd q hk⟩
theorem zOr_2 {g k i : Nat} {kd w gv tg : Int} {l : CdL} {I : ZI} (h1 : I 238 (600 * g + i) = kd) (h2 : I 239 (600 * g + i) = w) (h3 : I 240 (600 * g + i) = gv) (h4 : I 243 (600 * g + i) = tg) (hk : ¬ (kd = 2 ∨ kd = 3)) (hl : zOl g k l (I 242 (600 * g + i)) I) : zOr g k i (kd, w, gv, [], l, tg) I := ⟨⟨h1, h2, h3, h4⟩, fun q => absurd q hk, fun _ => hl⟩
theorem zOr_3 {g k i : Nat} {kd w gv tg : Int} {l m : CdL} {I : ZI} (h1 : I 238 (600 * g + i) = kd) (h2 : I 239 (600 * g + i) = w) (h3 : I 240 (600 * g + i) = gv) (h4 : I 243 (600 * g + i) = tg) (hm : zOl g k m (I 241 (600 * g + i)) I) (hl : zOl g k l (I 242 (600 * g + i)) I) : zOr g k i (kd, w, gv, m, l, tg) I := ⟨⟨h1, h2, h3, h4⟩, fun _ => hm, fun _ => hl⟩
/-- blocks that are open -/
def zOs : List (Int × Nat) → ZI → Prop
  | [], _ => True
  | x :: o, I => (I 247 o.length = x.1 ∧ I 248 o.length = x.2) ∧ zOs o I
theorem zOs_fr {I I' : ZI} : ∀ {o : List (Int × Nat)}, zOs o I → (∀ x j : Nat, x = 247 ∨ x = 248 → j < o.length → I' x j = I x j) → zOs o I'
  | [], _, _ => True.intro
  | x :: o, h, hf => ⟨⟨(hf 247 _ (Or.inl rfl) (Nat.lt_succ_self _)).trans h.1.1, (hf 248 _ (Or.inr rfl) (Nat.lt_succ_self _)).trans h.1.2⟩, zOs_fr h.2 (fun y j hy hj => hf y j hy (Nat.lt_succ_of_lt hj))⟩
def zRd (g : Nat) (x : RdT) (I : ZI) : Prop := (x.1 = 1 ∧ (I 234 16 = x.2.1 ∧ I 234 17 = -1 ∧ I 234 18 = x.2.2.1 ∧ I 234 19 = x.2.2.2.1 ∧ I 234 20 = x.2.2.2.2.1 ∧ I 234 21 = x.2.2.2.2.2.1.length) ∧ zOs x.2.2.2.2.2.1 I ∧ orA g x.2.2.2.1 x.2.2.1 x.2.2.2.2.2.2.1 I ∧ ∀ f : Nat, f < 26 → I 244 (26 * g + f) = x.2.2.2.2.2.2.2 f) ∨ (x.1 = 0 ∧ I 234 17 = x.2.1 ∧ 0 ≤ I 234 16 ∧ I 234 16 ≤ 500)
theorem zRd_1 {g a t k n : Nat} {o : List (Int × Nat)} {r : Nat → OrT} {u : Nat → Int} {I : ZI} (h : zRd g (1, a, t, k, n, o, r, u) I) : (I 234 16 = a ∧ I 234 17 = -1 ∧ I 234 18 = t ∧ I 234 19 = k ∧ I 234 20 = n ∧ I 234 21 = o.length) ∧ zOs o I ∧ orA g k t r I ∧ ∀ f : Nat, f < 26 → I 244 (26 * g + f) = u f := by
  rcases h with h | h
  · exact h.2
  · exact absurd h.1 (by show (1 : Nat) ≠ 0; decide)
theorem zRd_G {g a t k n : Nat} {o : List (Int × Nat)} {r : Nat → OrT} {u : Nat → Int} {I : ZI} (h16 : I 234 16 = a) (h17 : I 234 17 = -1) (h18 : I 234 18 = t) (h19 : I 234 19 = k) (h20 : I 234 20 = n) (h21 : I 234 21 = o.length) (hO : zOs o I) (hA : orA g k t r I) (hF : ∀ f : Nat, f < 26 → I 244 (26 * g + f) = u f) : zRd g (1, a, t, k, n, o, r, u) I := Or.inl ⟨rfl, ⟨h16, h17, h18, h19, h20, h21⟩, hO, hA, hF⟩
theorem zRd_F {g a : Nat} {y : Nat × Nat × Nat × List (Int × Nat) × (Nat → OrT) × (Nat → Int)} {I : ZI} (h17 : I 234 17 = a) (h16 : 0 ≤ I 234 16 ∧ I 234 16 ≤ 500) : zRd g (0, a, y) I := Or.inr ⟨rfl, h17, h16.1, h16.2⟩
theorem zRd_x {g : Nat} {x y : RdT} {I : ZI} (e : x = y) (h : zRd g x I) : zRd g y I := by rw [← e]; exact h
theorem rdOp_y {c : Nat → Int} {kd br : Int} {of a t k n : Nat} {o : List (Int × Nat)} {r : Nat → OrT} {u : Nat → Int} (h : c a = br ∧ ¬ o.length = 2) : rdOp c kd br of a t k n o r u = (1, a + 1, t, k, n, (kd, of) :: o, r, u) := if_pos h
theorem rdOp_n {c : Nat → Int} {kd br : Int} {of a t k n : Nat} {o : List (Int × Nat)} {r : Nat → OrT} {u : Nat → Int} (h : ¬ (c a = br ∧ ¬ o.length = 2)) : rdOp c kd br of a t k n o r u = (0, a, t, k, n, o, r, u) := if_neg h
theorem exT_y {c : Nat → Int} {w : Int} {x : ExR} (h : x.1 = 1) (h2 : c x.2.1 = w) : exT c w x = (1, x.2.1 + 1, x.2.2) := (if_pos h).trans (if_pos h2)
theorem exT_n {c : Nat → Int} {w : Int} {x : ExR} (h : x.1 = 1) (h2 : ¬ c x.2.1 = w) : exT c w x = exF x.2.1 := (if_pos h).trans (if_neg h2)
theorem exT_f {c : Nat → Int} {w : Int} {x : ExR} (h : ¬ x.1 = 1) : exT c w x = x := if_neg h
theorem exG_I {c : Nat → Int} {p : Nat} : exG c (exI p) = exEx c 3 p := if_pos rfl
theorem exH_I {c : Nat → Int} {p : Nat} : exH c (exI p) = exAt c 3 p := if_pos rfl
theorem exG_y {c : Nat → Int} {x : ExR} (h : x.1 = 1) : exG c x = exEx c 3 x.2.1 := if_pos h
theorem exG_f {c : Nat → Int} {x : ExR} (h : ¬ x.1 = 1) : exG c x = x := if_neg h
theorem exFd_y {c : Nat → Int} {x : ExR} (h : x.1 = 1) (h1 : c x.2.1 = 58) (h2 : 48 ≤ c (x.2.1 + 1) ∧ c (x.2.1 + 1) ≤ 53) : exFd c x = (1, x.2.1 + 2, x.2.2 ++ [(64, c (x.2.1 + 1) - 48)]) := (if_pos h).trans ((if_pos h1).trans (if_pos h2))
theorem exFd_b {c : Nat → Int} {x : ExR} (h : x.1 = 1) (h1 : c x.2.1 = 58) (h2 : ¬ (48 ≤ c (x.2.1 + 1) ∧ c (x.2.1 + 1) ≤ 53)) : exFd c x = exF (x.2.1 + 1) := (if_pos h).trans ((if_pos h1).trans (if_neg h2))
theorem exFd_d {c : Nat → Int} {x : ExR} (h : x.1 = 1) (h1 : ¬ c x.2.1 = 58) : exFd c x = exF x.2.1 := (if_pos h).trans (if_neg h1)
theorem exFd_f {c : Nat → Int} {x : ExR} (h : ¬ x.1 = 1) : exFd c x = x := if_neg h
theorem rdSi_y {c : Nat → Int} {a t k n d : Nat} {o : List (Int × Nat)} {r : Nat → OrT} {u : Nat → Int} {y : ExR} {w : OrT} (h : stS c a = y) (h1 : y.1 = 1) (hw : stO c a = w) (hd : sqN c a = d) : rdSi c a t k n o r u = (1, y.2.1, t + 1, k + d, n, o, upF r t w, u) := by
  unfold rdSi
  rw [h, hw, hd, if_pos h1]
theorem rdSi_n {c : Nat → Int} {a t k n : Nat} {o : List (Int × Nat)} {r : Nat → OrT} {u : Nat → Int} {y : ExR} (h : stS c a = y) (h1 : ¬ y.1 = 1) : rdSi c a t k n o r u = (0, y.2.1, t, k, n, o, r, u) := by
  unfold rdSi
  rw [h, if_neg h1]
theorem stO_v {c : Nat → Int} {p : Nat} (h : 97 ≤ c p ∧ c p ≤ 122) : stO c p = (1, (p : Int), c p - 97, [], (exEx c 3 (p + 2)).2.2, 0) ∧ sqN c p = (exEx c 3 (p + 2)).2.2.length + 1 := by
  have e : stO c p = (1, (p : Int), c p - 97, [], (exEx c 3 (p + 2)).2.2, 0) := if_pos h
  exact ⟨e, by unfold sqN; rw [if_neg (by omega), if_neg (by omega), e]⟩
theorem stO_c {c : Nat → Int} {p : Nat} (h : 65 ≤ c p ∧ c p ≤ 90 ∧ c p ≠ 64) : stO c p = (18, (p : Int), c p - 65, [], [], 0) ∧ sqN c p = 0 := ⟨(if_neg (by omega)).trans (if_pos ⟨h.1, h.2.1⟩), if_pos ⟨h.1, h.2.1⟩⟩
theorem stO_a {c : Nat → Int} {p : Nat} (h : c p = 64) : stO c p = (2, (p : Int), c ((exAt c 3 (p + 1)).2.1 + 1) - 48, (exAt c 3 (p + 1)).2.2, (exEx c 3 ((exAt c 3 (p + 1)).2.1 + 3)).2.2, 0) ∧ sqN c p = (exAt c 3 (p + 1)).2.2.length + 1 + ((exEx c 3 ((exAt c 3 (p + 1)).2.1 + 3)).2.2.length + 1) := by
  have e : stO c p = (2, (p : Int), c ((exAt c 3 (p + 1)).2.1 + 1) - 48, (exAt c 3 (p + 1)).2.2, (exEx c 3 ((exAt c 3 (p + 1)).2.1 + 3)).2.2, 0) := (if_neg (by omega)).trans ((if_neg (by omega)).trans (if_pos h))
  exact ⟨e, by unfold sqN; rw [if_neg (by omega), if_pos (Or.inl h), e]⟩
theorem stO_q {c : Nat → Int} {p : Nat} (h : c p = 39) : stO c p = (3, (p : Int), 0, (exAt c 3 (p + 1)).2.2, (exEx c 3 ((exAt c 3 (p + 1)).2.1 + 1)).2.2, 0) ∧ sqN c p = (exAt c 3 (p + 1)).2.2.length + 1 + ((exEx c 3 ((exAt c 3 (p + 1)).2.1 + 1)).2.2.length + 1) := by
  have e : stO c p = (3, (p : Int), 0, (exAt c 3 (p + 1)).2.2, (exEx c 3 ((exAt c 3 (p + 1)).2.1 + 1)).2.2, 0) := (if_neg (by omega)).trans ((if_neg (by omega)).trans ((if_neg (by omega)).trans (if_pos h)))
  exact ⟨e, by unfold sqN; rw [if_neg (by omega), if_pos (Or.inr h), e]⟩
theorem stO_s {c : Nat → Int} {p : Nat} (h : c p = 33 ∨ c p = 94 ∨ c p = 43 ∨ c p = 38 ∨ c p = 124 ∨ c p = 60) : stO c p = (smK (c p), (p : Int), 0, [], (exEx c 3 (p + 1)).2.2, 0) ∧ sqN c p = (exEx c 3 (p + 1)).2.2.length + 1 := by
  have e : stO c p = (smK (c p), (p : Int), 0, [], (exEx c 3 (p + 1)).2.2, 0) := (if_neg (by omega)).trans ((if_neg (by omega)).trans ((if_neg (by omega)).trans (if_neg (by omega))))
  exact ⟨e, by unfold sqN; rw [if_neg (by omega), if_neg (by omega), e]⟩
theorem smK_b {u : Int} : smK u = 0 ∨ smK u = 4 ∨ (12 ≤ smK u ∧ smK u ≤ 16) := by
  unfold smK
  by_cases h1 : u = 33
  · rw [if_pos h1]; omega
  · rw [if_neg h1]
    by_cases h2 : u = 94
    · rw [if_pos h2]; omega
    · rw [if_neg h2]
      by_cases h3 : u = 43
      · rw [if_pos h3]; omega
      · rw [if_neg h3]
        by_cases h4 : u = 38
        · rw [if_pos h4]; omega
        · rw [if_neg h4]
          by_cases h5 : u = 124
          · rw [if_pos h5]; omega
          · rw [if_neg h5]
            by_cases h6 : u = 60
            · rw [if_pos h6]; omega
            · rw [if_neg h6]; omega
theorem zrq {Q : ZQ} {v w : Int} {I L : ZI} {R : ZR} {S : ZS} (e : v = w) (q : Q (some (zvi w)) I L R S) : Q (some (zvi v)) I L R S := by rw [e]; exact q
theorem rd_k {l : CdL} {q : Nat} : (q : Int) + ((l ++ [((0 : Int), (0 : Int))]).length : Nat) = ((q + (l.length + 1) : Nat) : Int) := by
  rw [List.length_append]
  show (q : Int) + ((l.length + 1 : Nat) : Int) = _
  omega
theorem len_C {α : Type} {x : α} {o : List α} : (((x :: o).length : Nat) : Int) = (o.length : Int) + 1 := by
  rw [List.length_cons]; omega
theorem zRd_H {g a : Nat} {y : Nat × Nat × Nat × List (Int × Nat) × (Nat → OrT) × (Nat → Int)} {I J : ZI} (h17 : I 234 17 = a) (h16 : I 234 16 = J 234 16) (hb : 0 ≤ J 234 16 ∧ J 234 16 ≤ 490) : zRd g (0, a, y) I := Or.inr ⟨rfl, h17, by omega, by omega⟩
theorem exW_0 {x : ExR} {n p : Nat} (h : exOk n p x) (h1 : ¬ x.1 = 1) : x.1 = 0 := by
  unfold exOk at h
  omega
theorem sv1 {c : Nat → Int} {a : Nat} (h : 97 ≤ c a ∧ c a ≤ 122) (h1 : ¬ c (a + 1) = 61) : stS c a = exF (a + 1) := by
  rw [stS_v h, exT_n (x := exI (a + 1)) rfl h1, exG_f (by show ¬ (0 : Nat) = 1; decide), exT_f (by show ¬ (0 : Nat) = 1; decide)]
  rfl
theorem sv2 {c : Nat → Int} {a : Nat} (h : 97 ≤ c a ∧ c a ≤ 122) (h1 : c (a + 1) = 61) : stS c a = exT c 59 (exEx c 3 (a + 2)) := by
  rw [stS_v h, exT_y (x := exI (a + 1)) rfl h1, exG_y rfl]
  rfl
theorem sq1 {c : Nat → Int} {a : Nat} (h : c a = 39) (h1 : ¬ (exAt c 3 (a + 1)).1 = 1) : stS c a = exAt c 3 (a + 1) := by
  rw [stS_q h, exH_I, exT_f h1, exG_f h1, exT_f h1]
theorem sq2 {c : Nat → Int} {a : Nat} (h : c a = 39) (h1 : (exAt c 3 (a + 1)).1 = 1) (h2 : ¬ c (exAt c 3 (a + 1)).2.1 = 61) : stS c a = exF (exAt c 3 (a + 1)).2.1 := by
  rw [stS_q h, exH_I, exT_n h1 h2, exG_f (by show ¬ (0 : Nat) = 1; decide), exT_f (by show ¬ (0 : Nat) = 1; decide)]
theorem sq3 {c : Nat → Int} {a : Nat} (h : c a = 39) (h1 : (exAt c 3 (a + 1)).1 = 1) (h2 : c (exAt c 3 (a + 1)).2.1 = 61) : stS c a = exT c 59 (exEx c 3 ((exAt c 3 (a + 1)).2.1 + 1)) := by
  rw [stS_q h, exH_I, exT_y h1 h2, exG_y rfl]
theorem sa1 {c : Nat → Int} {a : Nat} (h : c a = 64) (h1 : ¬ (exAt c 3 (a + 1)).1 = 1) : stS c a = exAt c 3 (a + 1) := by
  rw [stS_a h, exH_I, exFd_f h1, exT_f h1, exG_f h1, exT_f h1]
theorem sa2 {c : Nat → Int} {a : Nat} (h : c a = 64) (h1 : (exAt c 3 (a + 1)).1 = 1) (h2 : ¬ c (exAt c 3 (a + 1)).2.1 = 58) : stS c a = exF (exAt c 3 (a + 1)).2.1 := by
  rw [stS_a h, exH_I, exFd_d h1 h2, exT_f (by show ¬ (0 : Nat) = 1; decide), exG_f (by show ¬ (0 : Nat) = 1; decide), exT_f (by show ¬ (0 : Nat) = 1; decide)]
theorem sa3 {c : Nat → Int} {a : Nat} (h : c a = 64) (h1 : (exAt c 3 (a + 1)).1 = 1) (h2 : c (exAt c 3 (a + 1)).2.1 = 58) (h3 : ¬ (48 ≤ c ((exAt c 3 (a + 1)).2.1 + 1) ∧ c ((exAt c 3 (a + 1)).2.1 + 1) ≤ 53)) : stS c a = exF ((exAt c 3 (a + 1)).2.1 + 1) := by
  rw [stS_a h, exH_I, exFd_b h1 h2 h3, exT_f (by show ¬ (0 : Nat) = 1; decide), exG_f (by show ¬ (0 : Nat) = 1; decide), exT_f (by show ¬ (0 : Nat) = 1; decide)]
theorem sa4 {c : Nat → Int} {a : Nat} (h : c a = 64) (h1 : (exAt c 3 (a + 1)).1 = 1) (h2 : c (exAt c 3 (a + 1)).2.1 = 58) (h3 : 48 ≤ c ((exAt c 3 (a + 1)).2.1 + 1) ∧ c ((exAt c 3 (a + 1)).2.1 + 1) ≤ 53) (h4 : ¬ c ((exAt c 3 (a + 1)).2.1 + 2) = 61) : stS c a = exF ((exAt c 3 (a + 1)).2.1 + 2) := by
  rw [stS_a h, exH_I, exFd_y h1 h2 h3, exT_n (w := 61) rfl h4, exG_f (by show ¬ (0 : Nat) = 1; decide), exT_f (by show ¬ (0 : Nat) = 1; decide)]
theorem sa5 {c : Nat → Int} {a : Nat} (h : c a = 64) (h1 : (exAt c 3 (a + 1)).1 = 1) (h2 : c (exAt c 3 (a + 1)).2.1 = 58) (h3 : 48 ≤ c ((exAt c 3 (a + 1)).2.1 + 1) ∧ c ((exAt c 3 (a + 1)).2.1 + 1) ≤ 53) (h4 : c ((exAt c 3 (a + 1)).2.1 + 2) = 61) : stS c a = exT c 59 (exEx c 3 ((exAt c 3 (a + 1)).2.1 + 3)) := by
  rw [stS_a h, exH_I, exFd_y h1 h2 h3, exT_y (w := 61) rfl h4, exG_y rfl]
theorem zRd_K {g a : Nat} {y : Nat × Nat × Nat × List (Int × Nat) × (Nat → OrT) × (Nat → Int)} {v : Int} {I : ZI} (h17 : I 234 17 = a) (h16 : I 234 16 = v) (hb : 0 ≤ v ∧ v ≤ 490) : zRd g (0, a, y) I := Or.inr ⟨rfl, h17, by omega, by omega⟩
theorem l1_len {l : CdL} : (l ++ [((0 : Int), (0 : Int))]).length = l.length + 1 := by rw [List.length_append]; rfl
theorem smK_i {u : Int} : (smK u = 0 ↔ ¬ (u = 33 ∨ u = 94 ∨ u = 43 ∨ u = 38 ∨ u = 124 ∨ u = 60)) := by
  unfold smK
  by_cases h1 : u = 33
  · rw [if_pos h1]; omega
  · rw [if_neg h1]
    by_cases h2 : u = 94
    · rw [if_pos h2]; omega
    · rw [if_neg h2]
      by_cases h3 : u = 43
      · rw [if_pos h3]; omega
      · rw [if_neg h3]
        by_cases h4 : u = 38
        · rw [if_pos h4]; omega
        · rw [if_neg h4]
          by_cases h5 : u = 124
          · rw [if_pos h5]; omega
          · rw [if_neg h5]
            by_cases h6 : u = 60
            · rw [if_pos h6]; omega
            · rw [if_neg h6]; omega
theorem rdTs_0 {c : Nat → Int} {a t k n : Nat} {o : List (Int × Nat)} {r : Nat → OrT} {u : Nat → Int} (h : n = 100) : rdTs c a t k n o r u = (0, a, t, k, n, o, r, u) := if_pos h
theorem rdTs_q {c : Nat → Int} {a t k n : Nat} {o : List (Int × Nat)} {r : Nat → OrT} {u : Nat → Int} (hn : ¬ n = 100) (h : c a = 63) : rdTs c a t k n o r u = rdBw c 5 1 a t k (n + 1) o r u := (if_neg hn).trans (if_pos h)
theorem rdTs_l {c : Nat → Int} {a t k n : Nat} {o : List (Int × Nat)} {r : Nat → OrT} {u : Nat → Int} (hn : ¬ n = 100) (h : c a = 42) : rdTs c a t k n o r u = rdBw c 6 3 a t k (n + 1) o r u := (if_neg hn).trans ((if_neg (by omega)).trans (if_pos h))
theorem rdTs_b {c : Nat → Int} {a t k n : Nat} {o : List (Int × Nat)} {r : Nat → OrT} {u : Nat → Int} (hn : ¬ n = 100) (h : c a = 91) : rdTs c a t k n o r u = rdOp c 4 91 t a (t + 1) k (n + 1) o (upF r t (7, a, 0, [], [], 0)) u := (if_neg hn).trans ((if_neg (by omega)).trans ((if_neg (by omega)).trans (if_pos h)))
theorem rdTs_t {c : Nat → Int} {a t k n : Nat} {o : List (Int × Nat)} {r : Nat → OrT} {u : Nat → Int} (hn : ¬ n = 100) (h : c a = 126) : rdTs c a t k n o r u = rdOp c 5 123 t (a + 1) (t + 1) k (n + 1) o (upF r t (9, a, 0, [], [], 0)) u := (if_neg hn).trans ((if_neg (by omega)).trans ((if_neg (by omega)).trans ((if_neg (by omega)).trans (if_pos h))))
theorem rdTs_f {c : Nat → Int} {a t k n : Nat} {o : List (Int × Nat)} {r : Nat → OrT} {u : Nat → Int} (hn : ¬ n = 100) (h : c a = 58) : rdTs c a t k n o r u = rdFn c a t k (n + 1) o r u := (if_neg hn).trans ((if_neg (by omega)).trans ((if_neg (by omega)).trans ((if_neg (by omega)).trans ((if_neg (by omega)).trans (if_pos h)))))
theorem rdTs_s {c : Nat → Int} {a t k n : Nat} {o : List (Int × Nat)} {r : Nat → OrT} {u : Nat → Int} (hn : ¬ n = 100) (h : ¬ (c a = 63 ∨ c a = 42 ∨ c a = 91 ∨ c a = 126 ∨ c a = 58)) : rdTs c a t k n o r u = rdSi c a t k (n + 1) o r u := (if_neg hn).trans ((if_neg (by omega)).trans ((if_neg (by omega)).trans ((if_neg (by omega)).trans ((if_neg (by omega)).trans (if_neg (by omega))))))
theorem rdCl_1 {c : Nat → Int} {of a t k n : Nat} {o : List (Int × Nat)} {r : Nat → OrT} {u : Nat → Int} (h : c (a + 1) = 123) : rdCl c 1 of a t k n o r u = rdOp c 2 123 t (a + 1) (t + 1) k n o (orG (upF r t (17, (r of).2.1, 0, [], [], 0)) of ((t + 1 : Nat) : Int)) u := (if_pos rfl).trans (if_pos h)
theorem rdCl_1n {c : Nat → Int} {of a t k n : Nat} {o : List (Int × Nat)} {r : Nat → OrT} {u : Nat → Int} (h : ¬ c (a + 1) = 123) : rdCl c 1 of a t k n o r u = (1, a + 1, t, k, n, o, orG r of (t : Int), u) := (if_pos rfl).trans (if_neg h)
theorem rdCl_2 {c : Nat → Int} {of a t k n : Nat} {o : List (Int × Nat)} {r : Nat → OrT} {u : Nat → Int} : rdCl c 2 of a t k n o r u = (1, a + 1, t, k, n, o, orG r of (t : Int), u) := rfl
theorem rdCl_3 {c : Nat → Int} {of a t k n : Nat} {o : List (Int × Nat)} {r : Nat → OrT} {u : Nat → Int} : rdCl c 3 of a t k n o r u = (1, a + 1, t + 1, k, n, o, orG (upF r t (17, (r of).2.1, 0, [], [], (of : Int))) of ((t + 1 : Nat) : Int), u) := rfl
theorem rdCl_4 {c : Nat → Int} {of a t k n : Nat} {o : List (Int × Nat)} {r : Nat → OrT} {u : Nat → Int} : rdCl c 4 of a t k n o r u = (1, a + 1, t + 1, k, n, o, upF r t (8, (r of).2.1, 0, [], [], 0), u) := rfl
theorem rdCl_5 {c : Nat → Int} {of a t k n : Nat} {o : List (Int × Nat)} {r : Nat → OrT} {u : Nat → Int} : rdCl c 5 of a t k n o r u = rdOp c 6 123 of (a + 1) (t + 1) k n o (upF (orG r of (t : Int)) t (10, (r of).2.1, 0, [], [], 0)) u := rfl
theorem rdCl_6 {c : Nat → Int} {of a t k n : Nat} {o : List (Int × Nat)} {r : Nat → OrT} {u : Nat → Int} : rdCl c 6 of a t k n o r u = (1, a + 1, t + 1, k, n, o, upF r t (11, (r of).2.1, 0, [], [], 0), u) := rfl
theorem rdCl_7 {c : Nat → Int} {of a t k n : Nat} {o : List (Int × Nat)} {r : Nat → OrT} {u : Nat → Int} : rdCl c 7 of a t k n o r u = (1, a + 1, t + 1, k, n, o, orG (upF r t (19, (r of).2.1, 0, [], [], 0)) of ((t + 1 : Nat) : Int), u) := rfl
