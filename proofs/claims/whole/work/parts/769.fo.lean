/-! fo: SCRIPTS: what holds at each step of the reference's reader of a script -/
def rdMe (N : Nat) (x : RdT) : Nat := if x.1 = 1 then N + 1 - x.2.1 else 0
theorem rdI_0 {N a : Nat} {y : Nat × Nat × Nat × List (Int × Nat) × (Nat → OrT) × (Nat → Int)} (h : a ≤ N) : rdI N (0, a, y) := ⟨Nat.zero_le 1, h, fun g => absurd (show (0 : Nat) = 1 from g) (by decide)⟩
theorem rdI_1 {N a t k n : Nat} {o : List (Int × Nat)} {r : Nat → OrT} {u : Nat → Int} (ha : a ≤ N) (hn : n ≤ 100) (ht : t + pnd o ≤ 3 * n) (hk : k ≤ a + 2 * n) (ho : o.length ≤ 2) (hG : opG t o) : rdI N (1, a, t, k, n, o, r, u) := ⟨Nat.le_refl 1, ha, fun _ => ⟨hn, ht, hk, ho, hG⟩⟩
/-- a step's end that goes on behind a, or not -/
def rdQ (N a : Nat) (x : RdT) : Prop := rdI N x ∧ (x.1 = 1 → a < x.2.1)
theorem rdQ_0 {N a b : Nat} {y : Nat × Nat × Nat × List (Int × Nat) × (Nat → OrT) × (Nat → Int)} (h : b ≤ N) : rdQ N a (0, b, y) := ⟨rdI_0 h, fun g => absurd (show (0 : Nat) = 1 from g) (by decide)⟩
theorem rdOp_Q {N a b : Nat} {c : Nat → Int} (hc : eTx N c) {kd br : Int} {of t k n : Nat} {o : List (Int × Nat)} {r : Nat → OrT} {u : Nat → Int} (hb : b ≤ N) (hab : a ≤ b) (hbr : br ≠ -1) (hn : n ≤ 100) (ht : t + (if kd = 5 then 2 else if kd = 2 then 0 else 1) + pnd o ≤ 3 * n) (hk : k ≤ b + 2 * n) (ho : o.length ≤ 2) (hG : opG t o) (hkd : 1 ≤ kd ∧ kd ≤ 7) (hof : of < t) : rdQ N a (rdOp c kd br of b t k n o r u) := by
  by_cases e : c b = br ∧ ¬ o.length = 2
  · rw [rdOp_y e]
    have hl := eTx_lt hc (p := b) (by omega)
    refine ⟨rdI_1 hl hn ?_ (by omega) ?_ ⟨hkd, hof, hG⟩, fun _ => by show a < b + 1; omega⟩
    · show t + ((if kd = 5 then 2 else if kd = 2 then 0 else 1) + pnd o) ≤ 3 * n
      omega
    · show o.length + 1 ≤ 2
      omega
  · rw [rdOp_n e]
    exact rdQ_0 hb
theorem exEx_len {n p : Nat} {c : Nat → Int} (h : eTx n c) (hp : p ≤ n) (h1 : (exEx c 3 p).1 = 1) : p + (exEx c 3 p).2.2.length ≤ (exEx c 3 p).2.1 := by
  rcases rc_exp h hp (s := fun _ => 0) with ⟨_, s', a, ha⟩ | ⟨q, _⟩
  · have w : ∀ m x, rcI n p x → rcI n p (itN (rcS c 1) m x) := fun m => by
      induction m with
      | zero => exact fun x hx => hx
      | succ m ih => exact fun x hx => ih _ (rcS_I h hx).1
    have w2 := w a (1, 1, p, 0, fun _ => 0, 0, []) ⟨by show 1 ≤ 2; decide, Nat.le_refl 1, hp, fun _ => ⟨rfl, Nat.zero_le 3, Nat.le_refl p⟩, fun g => absurd (show (1 : Nat) = 2 from g) (by decide)⟩
    rw [ha] at w2
    exact w2.2.2.2.2 rfl
  · omega
theorem exAt_len {n p : Nat} {c : Nat → Int} (h : eTx n c) (hp : p ≤ n) (h1 : (exAt c 3 p).1 = 1) : p + (exAt c 3 p).2.2.length ≤ (exAt c 3 p).2.1 := by
  rcases rc_atm h (p := p) (s := fun _ => 0) with ⟨_, s', a, ha⟩ | ⟨q, _⟩
  · have w : ∀ m x, rcI n p x → rcI n p (itN (rcS c 0) m x) := fun m => by
      induction m with
      | zero => exact fun x hx => hx
      | succ m ih => exact fun x hx => ih _ (rcS_I h hx).1
    have w2 := w a (1, 1, p, 0, fun _ => 0, 0, []) ⟨by show 1 ≤ 2; decide, Nat.le_refl 1, hp, fun _ => ⟨rfl, Nat.zero_le 3, Nat.le_refl p⟩, fun g => absurd (show (1 : Nat) = 2 from g) (by decide)⟩
    rw [ha] at w2
    exact w2.2.2.2.2 rfl
  · omega
theorem exT_1 {c : Nat → Int} {w : Int} {x : ExR} (h : (exT c w x).1 = 1) : x.1 = 1 ∧ c x.2.1 = w ∧ exT c w x = (1, x.2.1 + 1, x.2.2) := by
  by_cases e : x.1 = 1
  · by_cases e2 : c x.2.1 = w
    · exact ⟨e, e2, exT_y e e2⟩
    · rw [exT_n e e2] at h; exact absurd (show (0 : Nat) = 1 from h) (by decide)
  · rw [exT_f e] at h; exact absurd h e
/-- what a good plain statement is made of -/
theorem stS_1 {c : Nat → Int} {a : Nat} (h : (stS c a).1 = 1) : (97 ≤ c a ∧ c a ≤ 122 ∧ c (a + 1) = 61 ∧ (exEx c 3 (a + 2)).1 = 1 ∧ c (exEx c 3 (a + 2)).2.1 = 59 ∧ (stS c a).2.1 = (exEx c 3 (a + 2)).2.1 + 1) ∨ (65 ≤ c a ∧ c a ≤ 90 ∧ c a ≠ 64 ∧ c (a + 1) = 59 ∧ (stS c a).2.1 = a + 2)
    ∨ (c a = 64 ∧ (exAt c 3 (a + 1)).1 = 1 ∧ c (exAt c 3 (a + 1)).2.1 = 58 ∧ (48 ≤ c ((exAt c 3 (a + 1)).2.1 + 1) ∧ c ((exAt c 3 (a + 1)).2.1 + 1) ≤ 53) ∧ c ((exAt c 3 (a + 1)).2.1 + 2) = 61 ∧ (exEx c 3 ((exAt c 3 (a + 1)).2.1 + 3)).1 = 1 ∧ c (exEx c 3 ((exAt c 3 (a + 1)).2.1 + 3)).2.1 = 59 ∧ (stS c a).2.1 = (exEx c 3 ((exAt c 3 (a + 1)).2.1 + 3)).2.1 + 1)
    ∨ (c a = 39 ∧ (exAt c 3 (a + 1)).1 = 1 ∧ c (exAt c 3 (a + 1)).2.1 = 61 ∧ (exEx c 3 ((exAt c 3 (a + 1)).2.1 + 1)).1 = 1 ∧ c (exEx c 3 ((exAt c 3 (a + 1)).2.1 + 1)).2.1 = 59 ∧ (stS c a).2.1 = (exEx c 3 ((exAt c 3 (a + 1)).2.1 + 1)).2.1 + 1)
    ∨ ((c a = 33 ∨ c a = 94 ∨ c a = 43 ∨ c a = 38 ∨ c a = 124 ∨ c a = 60) ∧ (exEx c 3 (a + 1)).1 = 1 ∧ c (exEx c 3 (a + 1)).2.1 = 59 ∧ (stS c a).2.1 = (exEx c 3 (a + 1)).2.1 + 1) := by
  by_cases e1 : 97 ≤ c a ∧ c a ≤ 122
  · left
    by_cases q : c (a + 1) = 61
    · rw [sv2 e1 q] at h ⊢
      have w := exT_1 h
      exact ⟨e1.1, e1.2, q, w.1, w.2.1, by rw [w.2.2]⟩
    · rw [sv1 e1 q] at h; exact absurd (show (0 : Nat) = 1 from h) (by decide)
  · by_cases e2 : 65 ≤ c a ∧ c a ≤ 90
    · right; left
      rw [stS_c e2] at h ⊢
      have w := exT_1 h
      exact ⟨e2.1, e2.2, by omega, w.2.1, by rw [w.2.2]; rfl⟩
    · by_cases e3 : c a = 64
      · right; right; left
        by_cases q1 : (exAt c 3 (a + 1)).1 = 1
        · by_cases q2 : c (exAt c 3 (a + 1)).2.1 = 58
          · by_cases q3 : 48 ≤ c ((exAt c 3 (a + 1)).2.1 + 1) ∧ c ((exAt c 3 (a + 1)).2.1 + 1) ≤ 53
            · by_cases q4 : c ((exAt c 3 (a + 1)).2.1 + 2) = 61
              · rw [sa5 e3 q1 q2 q3 q4] at h ⊢
                have w := exT_1 h
                exact ⟨e3, q1, q2, q3, q4, w.1, w.2.1, by rw [w.2.2]⟩
              · rw [sa4 e3 q1 q2 q3 q4] at h; exact absurd (show (0 : Nat) = 1 from h) (by decide)
            · rw [sa3 e3 q1 q2 q3] at h; exact absurd (show (0 : Nat) = 1 from h) (by decide)
          · rw [sa2 e3 q1 q2] at h; exact absurd (show (0 : Nat) = 1 from h) (by decide)
        · rw [sa1 e3 q1] at h; exact absurd h q1
      · by_cases e4 : c a = 39
        · right; right; right; left
          by_cases q1 : (exAt c 3 (a + 1)).1 = 1
          · by_cases q2 : c (exAt c 3 (a + 1)).2.1 = 61
            · rw [sq3 e4 q1 q2] at h ⊢
              have w := exT_1 h
              exact ⟨e4, q1, q2, w.1, w.2.1, by rw [w.2.2]⟩
            · rw [sq2 e4 q1 q2] at h; exact absurd (show (0 : Nat) = 1 from h) (by decide)
          · rw [sq1 e4 q1] at h; exact absurd h q1
        · right; right; right; right
          by_cases e5 : c a = 33 ∨ c a = 94 ∨ c a = 43 ∨ c a = 38 ∨ c a = 124 ∨ c a = 60
          · rw [stS_e e5, exG_I] at h ⊢
            have w := exT_1 h
            exact ⟨e5, w.1, w.2.1, by rw [w.2.2]⟩
          · rw [stS_f e1 e2 e3 e4 e5] at h; exact absurd (show (0 : Nat) = 1 from h) (by decide)
theorem sqN_b {N a : Nat} {c : Nat → Int} (hc : eTx N c) (ha : a ≤ N) (h : (stS c a).1 = 1) : a + sqN c a ≤ (stS c a).2.1 + 2 := by
  have ha1 : a + 1 ≤ N := eTx_lt hc (fun e => by
    have w := stS_1 h
    omega)
  rcases stS_1 h with ⟨h1, h2, h3, h4, h5, h6⟩ | ⟨h1, h2, h3, h4, h5⟩ | ⟨h1, h2, h3, h4, h5, h6, h7, h8⟩ | ⟨h1, h2, h3, h4, h5, h6⟩ | ⟨h1, h2, h3, h4⟩
  · have hl := eTx_lt hc (p := a + 1) (by omega)
    have w := exEx_len hc (p := a + 2) hl h4
    rw [h6, (stO_v ⟨h1, h2⟩).2]
    omega
  · rw [h5, (stO_c ⟨h1, h2, h3⟩).2]
    omega
  · have hl := eTx_lt hc (p := (exAt c 3 (a + 1)).2.1 + 2) (by omega)
    have w := exAt_len hc ha1 h2
    have w2 := exEx_len hc (p := (exAt c 3 (a + 1)).2.1 + 3) hl h6
    rw [h8, (stO_a h1).2]
    omega
  · have hl := eTx_lt hc (p := (exAt c 3 (a + 1)).2.1) (by omega)
    have w := exAt_len hc ha1 h2
    have w2 := exEx_len hc (p := (exAt c 3 (a + 1)).2.1 + 1) hl h4
    rw [h6, (stO_q h1).2]
    omega
  · have w := exEx_len hc ha1 h2
    rw [h4, (stO_s h1).2]
    omega
theorem rdTs_Q {N a : Nat} {c : Nat → Int} (hc : eTx N c) {t k n : Nat} {o : List (Int × Nat)} {r : Nat → OrT} {u : Nat → Int} (ha : a < N) (hn : n ≤ 100) (ht : t + pnd o ≤ 3 * n) (hk : k ≤ a + 2 * n) (ho : o.length ≤ 2) (hG : opG t o) : rdQ N a (rdTs c a t k n o r u) := by
  have hG1 := opG_m (Nat.le_succ t) hG
  by_cases h0 : n = 100
  · rw [rdTs_0 h0]; exact rdQ_0 (Nat.le_of_lt ha)
  · have hE := exEx_ok hc (r := 3) (p := a + 1) ha
    have hEl := exEx_len hc (p := a + 1) ha
    unfold exOk at hE
    have hBw : ∀ kd bk : Int, (kd = 5 ∧ bk = 1) ∨ (kd = 6 ∧ bk = 3) → rdQ N a (rdBw c kd bk a t k (n + 1) o r u) := fun kd bk hb => by
      unfold rdBw
      by_cases e : (exEx c 3 (a + 1)).1 = 1
      · rw [if_pos e]
        have w := hEl e
        exact rdOp_Q hc (by omega) (by omega) (by decide) (by omega) (by rw [if_neg (by omega), if_neg (by omega)]; omega) (by omega) ho hG1 (by omega) (Nat.lt_succ_self t)
      · rw [if_neg e]; exact rdQ_0 (by omega)
    by_cases h1 : c a = 63
    · rw [rdTs_q h0 h1]; exact hBw 5 1 (Or.inl ⟨rfl, rfl⟩)
    · by_cases h2 : c a = 42
      · rw [rdTs_l h0 h2]; exact hBw 6 3 (Or.inr ⟨rfl, rfl⟩)
      · by_cases h3 : c a = 91
        · rw [rdTs_b h0 h3]
          exact rdOp_Q hc (Nat.le_of_lt ha) (Nat.le_refl a) (by decide) (by omega) (by rw [if_neg (by decide), if_neg (by decide)]; omega) (by omega) ho hG1 (by decide) (Nat.lt_succ_self t)
        · by_cases h4 : c a = 126
          · rw [rdTs_t h0 h4]
            exact rdOp_Q hc ha (Nat.le_succ a) (by decide) (by omega) (by rw [if_pos rfl]; omega) (by omega) ho hG1 (by decide) (Nat.lt_succ_self t)
          · by_cases h5 : c a = 58
            · rw [rdTs_f h0 h5]
              unfold rdFn
              by_cases e : 65 ≤ c (a + 1) ∧ c (a + 1) ≤ 90
              · rw [if_pos e]
                have hl := eTx_lt hc (p := a + 1) (by omega)
                by_cases e2 : o.length = 0 ∧ u (c (a + 1) - 65).toNat = -1
                · rw [if_pos e2]
                  exact rdOp_Q hc hl (by omega) (by decide) (by omega) (by rw [if_neg (by decide), if_neg (by decide)]; omega) (by omega) ho hG1 (by decide) (Nat.lt_succ_self t)
                · rw [if_neg e2]; exact rdQ_0 (by omega)
              · rw [if_neg e]; exact rdQ_0 ha
            · rw [rdTs_s h0 (by omega)]
              have w := stS_pl hc (Nat.le_of_lt ha)
              unfold exOk at w
              unfold rdSi
              by_cases e : (stS c a).1 = 1
              · rw [if_pos e]
                have w2 := sqN_b hc (Nat.le_of_lt ha) e
                exact ⟨rdI_1 (by omega) (by omega) (by omega) (by omega) ho hG1, fun _ => by show a < (stS c a).2.1; omega⟩
              · rw [if_neg e]; exact rdQ_0 (by omega)
theorem rdCl_Q {N a : Nat} {c : Nat → Int} (hc : eTx N c) {kd : Int} {of t k n : Nat} {o : List (Int × Nat)} {r : Nat → OrT} {u : Nat → Int} (ha : a < N) (hn : n ≤ 100) (ht : t + pnd ((kd, of) :: o) ≤ 3 * n) (hk : k ≤ a + 2 * n) (ho : o.length + 1 ≤ 2) (hG : opG t ((kd, of) :: o)) : rdQ N a (rdCl c kd of a t k n o r u) := by
  obtain ⟨hkd, hof, hG⟩ := hG
  have hkd : 1 ≤ kd ∧ kd ≤ 7 := hkd
  have hof : of < t := hof
  have hG1 := opG_m (Nat.le_succ t) hG
  have hp : pnd ((kd, of) :: o) = (if kd = 5 then 2 else if kd = 2 then 0 else 1) + pnd o := rfl
  rw [hp] at ht
  have hD : ∀ {t' : Nat} {r' : Nat → OrT}, t ≤ t' → t' + pnd o ≤ 3 * n → rdQ N a (1, a + 1, t', k, n, o, r', u) := fun h1 h2 => ⟨rdI_1 ha hn h2 (by omega) (by omega) (opG_m h1 hG), fun _ => Nat.lt_succ_self a⟩
  rcases (show kd = 1 ∨ kd = 2 ∨ kd = 3 ∨ kd = 4 ∨ kd = 5 ∨ kd = 6 ∨ kd = 7 by omega) with h | h | h | h | h | h | h
  · subst h
    rw [if_neg (by decide), if_neg (by decide)] at ht
    by_cases e : c (a + 1) = 123
    · rw [rdCl_1 e]
      exact rdOp_Q hc ha (Nat.le_succ a) (by decide) hn (by rw [if_neg (by decide), if_pos rfl]; omega) (by omega) (by omega) hG1 (by decide) (Nat.lt_succ_self t)
    · rw [rdCl_1n e]
      exact hD (Nat.le_refl t) (by omega)
  · subst h
    rw [if_neg (by decide), if_pos rfl] at ht
    rw [rdCl_2]
    exact hD (Nat.le_refl t) (by omega)
  · subst h
    rw [if_neg (by decide), if_neg (by decide)] at ht
    rw [rdCl_3]
    exact hD (Nat.le_succ t) (by omega)
  · subst h
    rw [if_neg (by decide), if_neg (by decide)] at ht
    rw [rdCl_4]
    exact hD (Nat.le_succ t) (by omega)
  · subst h
    rw [if_pos rfl] at ht
    rw [rdCl_5]
    exact rdOp_Q hc ha (Nat.le_succ a) (by decide) hn (by rw [if_neg (by decide), if_neg (by decide)]; omega) (by omega) (by omega) hG1 (by decide) (by omega)
  · subst h
    rw [if_neg (by decide), if_neg (by decide)] at ht
    rw [rdCl_6]
    exact hD (Nat.le_succ t) (by omega)
  · subst h
    rw [if_neg (by decide), if_neg (by decide)] at ht
    rw [rdCl_7]
    exact hD (Nat.le_succ t) (by omega)
theorem rd_eta {x : RdT} (h : x.1 = 1) : x = (1, x.2.1, x.2.2.1, x.2.2.2.1, x.2.2.2.2.1, x.2.2.2.2.2.1, x.2.2.2.2.2.2.1, x.2.2.2.2.2.2.2) := by
  rw [← h]
theorem op_cons {o : List (Int × Nat)} (h : 1 ≤ o.length) : o = ((o.getD 0 (0, 0)).1, (o.getD 0 (0, 0)).2) :: o.drop 1 := by
  cases o with
  | nil => exact absurd h (by decide)
  | cons y o => rfl
theorem rdS_n {c : Nat → Int} {N : Nat} {x : RdT} (h : x.1 = 1) (h10 : c x.2.1 = 10) : rdS c N x = (1, x.2.1 + 1, x.2.2.1, x.2.2.2.1, x.2.2.2.2.1, x.2.2.2.2.2.1, x.2.2.2.2.2.2.1, x.2.2.2.2.2.2.2) := (if_pos h).trans (if_pos h10)
theorem rdX_c {c : Nat → Int} {N a t k n : Nat} {y : Int × Nat} {o : List (Int × Nat)} {r : Nat → OrT} {u : Nat → Int} (h10 : ¬ c a = 10) (hc : c a = (if y.1 = 4 then 93 else 125)) : rdX c N a t k n (y :: o) r u = rdCl c y.1 y.2 a t k n o r u := (if_neg h10).trans (if_pos hc)
theorem rdX_t {c : Nat → Int} {N a t k n : Nat} {o : List (Int × Nat)} {r : Nat → OrT} {u : Nat → Int} (h10 : ¬ c a = 10) (hc : ∀ y o', o = y :: o' → ¬ c a = (if y.1 = 4 then 93 else 125)) (ha : a < N) : rdX c N a t k n o r u = rdTs c a t k n o r u := by
  unfold rdX
  rw [if_neg h10]
  cases o with
  | nil => exact if_pos ha
  | cons y o => exact (if_neg (hc y o rfl)).trans (if_pos ha)
theorem rdX_w {c : Nat → Int} {N a t k n : Nat} {y : Int × Nat} {o : List (Int × Nat)} {r : Nat → OrT} {u : Nat → Int} (h10 : ¬ c a = 10) (hc : ¬ c a = (if y.1 = 4 then 93 else 125)) (ha : ¬ a < N) : rdX c N a t k n (y :: o) r u = (0, a, t, k, n, y :: o, r, u) := (if_neg h10).trans ((if_neg hc).trans (if_neg ha))
theorem rdX_e {c : Nat → Int} {N a t k n : Nat} {r : Nat → OrT} {u : Nat → Int} (h10 : ¬ c a = 10) (ha : ¬ a < N) : rdX c N a t k n [] r u = (1, a, t, k, n, [], r, u) := (if_neg h10).trans (if_neg ha)
/-- where it ends -/
def rdEn (N : Nat) (x : RdT) : Prop := x.1 = 0 ∨ (x.1 = 1 ∧ ¬ x.2.1 < N ∧ x.2.2.2.2.2.1 = [])
theorem rdS_f {c : Nat → Int} {N : Nat} {x : RdT} (hc : eTx N c) (h : rdEn N x) : rdS c N x = x := by
  rcases h with h | ⟨h1, h2, h3⟩
  · exact if_neg (by omega)
  · obtain ⟨f, a, t, k, n, o, r, u⟩ := x
    have e1 : f = 1 := h1
    have e3 : o = [] := h3
    subst e1; subst e3
    refine (if_pos rfl).trans (rdX_e (fun q => ?_) h2)
    have q2 : c a = 10 := q
    exact absurd (eTx_lt hc (p := a) (by omega)) h2
theorem rdS_I {N : Nat} {c : Nat → Int} (hc : eTx N c) {x : RdT} (h : rdI N x) : rdI N (rdS c N x) ∧ (¬ rdEn N x → rdMe N (rdS c N x) < rdMe N x) := by
  obtain ⟨f, a, t, k, n, o, r, u⟩ := x
  by_cases e : f = 1
  · subst e
    obtain ⟨_, ha, h5⟩ := h
    have ha : a ≤ N := ha
    obtain ⟨hn, ht, hk, ho, hG⟩ := h5 rfl
    have hn : n ≤ 100 := hn
    have ht : t + pnd o ≤ 3 * n := ht
    have hk : k ≤ a + 2 * n := hk
    have hfin : rdQ N a (rdX c N a t k n o r u) → rdI N (rdS c N (1, a, t, k, n, o, r, u)) ∧ (¬ rdEn N (1, a, t, k, n, o, r, u) → rdMe N (rdS c N (1, a, t, k, n, o, r, u)) < rdMe N (1, a, t, k, n, o, r, u)) := fun q => by
      have e2 : rdS c N (1, a, t, k, n, o, r, u) = rdX c N a t k n o r u := if_pos rfl
      rw [e2]
      refine ⟨q.1, fun _ => ?_⟩
      unfold rdMe
      rw [if_pos rfl]
      show _ < N + 1 - a
      by_cases e3 : (rdX c N a t k n o r u).1 = 1
      · rw [if_pos e3]
        have w := q.2 e3
        have w2 := q.1.2.1
        omega
      · rw [if_neg e3]; omega
    by_cases h10 : c a = 10
    · have hl := eTx_lt hc (p := a) (by omega)
      have e2 : rdX c N a t k n o r u = (1, a + 1, t, k, n, o, r, u) := if_pos h10
      refine hfin ?_
      rw [e2]
      exact ⟨rdI_1 hl hn ht (by omega) ho hG, fun _ => Nat.lt_succ_self a⟩
    · cases o with
      | nil =>
        by_cases hl : a < N
        · refine hfin ?_
          rw [rdX_t h10 (fun y o' q => absurd q (by simp)) hl]
          exact rdTs_Q hc hl hn ht hk ho hG
        · have e2 : rdS c N (1, a, t, k, n, [], r, u) = (1, a, t, k, n, [], r, u) := (if_pos rfl).trans (rdX_e h10 hl)
          rw [e2]
          exact ⟨rdI_1 ha hn ht hk ho hG, fun q => absurd (Or.inr ⟨rfl, hl, rfl⟩) q⟩
      | cons y o =>
        by_cases hcl : c a = (if y.1 = 4 then 93 else 125)
        · refine hfin ?_
          rw [rdX_c h10 hcl]
          have hl := eTx_lt hc (p := a) (by rw [hcl]; by_cases q : y.1 = 4; (rw [if_pos q]; decide); (rw [if_neg q]; decide))
          exact rdCl_Q hc hl hn ht hk ho hG
        · by_cases hl : a < N
          · refine hfin ?_
            rw [rdX_t h10 (fun y2 o2 q => by injection q with q1 _; rw [← q1]; exact hcl) hl]
            exact rdTs_Q hc hl hn ht hk ho hG
          · refine hfin ?_
            rw [rdX_w h10 hcl hl]
            exact rdQ_0 ha
  · have e2 : rdS c N (f, a, t, k, n, o, r, u) = (f, a, t, k, n, o, r, u) := if_neg e
    rw [e2]
    have h1 : f ≤ 1 := h.1
    exact ⟨h, fun q => absurd (Or.inl (show f = 0 by omega)) q⟩
theorem zOs_h {o : List (Int × Nat)} {I : ZI} (h : zOs o I) (h1 : 1 ≤ o.length) : I 247 (o.length - 1) = (o.getD 0 (0, 0)).1 ∧ I 248 (o.length - 1) = (o.getD 0 (0, 0)).2 := by
  cases o with
  | nil => exact absurd h1 (by decide)
  | cons y o => exact h.1
theorem zRd_2 {g : Nat} {x : RdT} {I : ZI} (h : zRd g x I) (h1 : x.1 = 1) : (I 234 16 = x.2.1 ∧ I 234 17 = -1 ∧ I 234 18 = x.2.2.1 ∧ I 234 19 = x.2.2.2.1 ∧ I 234 20 = x.2.2.2.2.1 ∧ I 234 21 = x.2.2.2.2.2.1.length) ∧ zOs x.2.2.2.2.2.1 I ∧ orA g x.2.2.2.1 x.2.2.1 x.2.2.2.2.2.2.1 I ∧ ∀ f : Nat, f < 26 → I 244 (26 * g + f) = x.2.2.2.2.2.2.2 f := by
  rcases h with h | h
  · exact h.2
  · exact absurd h.1 (by omega)
theorem rd_et {g : Nat} {x : RdT} {I : ZI} (h : zRd g x I) (h1 : x.1 = 1) : zRd g (1, x.2.1, x.2.2.1, x.2.2.2.1, x.2.2.2.2.1, x.2.2.2.2.2.1, x.2.2.2.2.2.2.1, x.2.2.2.2.2.2.2) I := by rw [← rd_eta h1]; exact h
theorem rd_cs {g : Nat} {x : RdT} {I : ZI} (h : zRd g x I) (h1 : x.1 = 1) (hl : 1 ≤ x.2.2.2.2.2.1.length) : zRd g (1, x.2.1, x.2.2.1, x.2.2.2.1, x.2.2.2.2.1, ((x.2.2.2.2.2.1.getD 0 (0, 0)).1, (x.2.2.2.2.2.1.getD 0 (0, 0)).2) :: x.2.2.2.2.2.1.drop 1, x.2.2.2.2.2.2.1, x.2.2.2.2.2.2.2) I := by rw [← op_cons hl]; exact rd_et h h1
theorem opG_h {t : Nat} {o : List (Int × Nat)} (h : opG t o) (hl : 1 ≤ o.length) : (1 ≤ (o.getD 0 (0, 0)).1 ∧ (o.getD 0 (0, 0)).1 ≤ 7) ∧ (o.getD 0 (0, 0)).2 < t := by
  cases o with
  | nil => exact absurd hl (by decide)
  | cons y o => exact ⟨h.1, h.2.1⟩
theorem rd_sc {c : Nat → Int} {N : Nat} {x : RdT} (h1 : x.1 = 1) (h10 : ¬ c x.2.1 = 10) (hl : 1 ≤ x.2.2.2.2.2.1.length) (hc : c x.2.1 = (if (x.2.2.2.2.2.1.getD 0 (0, 0)).1 = 4 then 93 else 125)) : rdS c N x = rdCl c (x.2.2.2.2.2.1.getD 0 (0, 0)).1 (x.2.2.2.2.2.1.getD 0 (0, 0)).2 x.2.1 x.2.2.1 x.2.2.2.1 x.2.2.2.2.1 (x.2.2.2.2.2.1.drop 1) x.2.2.2.2.2.2.1 x.2.2.2.2.2.2.2 := by
  have e : rdS c N x = rdX c N x.2.1 x.2.2.1 x.2.2.2.1 x.2.2.2.2.1 x.2.2.2.2.2.1 x.2.2.2.2.2.2.1 x.2.2.2.2.2.2.2 := if_pos h1
  rw [e]
  have e2 := op_cons hl
  rw [show rdX c N x.2.1 x.2.2.1 x.2.2.2.1 x.2.2.2.2.1 x.2.2.2.2.2.1 x.2.2.2.2.2.2.1 x.2.2.2.2.2.2.2 = rdX c N x.2.1 x.2.2.1 x.2.2.2.1 x.2.2.2.2.1 (((x.2.2.2.2.2.1.getD 0 (0, 0)).1, (x.2.2.2.2.2.1.getD 0 (0, 0)).2) :: x.2.2.2.2.2.1.drop 1) x.2.2.2.2.2.2.1 x.2.2.2.2.2.2.2 from congrArg (fun q => rdX c N x.2.1 x.2.2.1 x.2.2.2.1 x.2.2.2.2.1 q x.2.2.2.2.2.2.1 x.2.2.2.2.2.2.2) e2]
  exact rdX_c h10 hc
theorem rd_st {c : Nat → Int} {N : Nat} {x : RdT} (h1 : x.1 = 1) (h10 : ¬ c x.2.1 = 10) (hc : x.2.2.2.2.2.1.length = 0 ∨ ¬ c x.2.1 = (if (x.2.2.2.2.2.1.getD 0 (0, 0)).1 = 4 then 93 else 125)) (ha : x.2.1 < N) : rdS c N x = rdTs c x.2.1 x.2.2.1 x.2.2.2.1 x.2.2.2.2.1 x.2.2.2.2.2.1 x.2.2.2.2.2.2.1 x.2.2.2.2.2.2.2 := by
  have e : rdS c N x = rdX c N x.2.1 x.2.2.1 x.2.2.2.1 x.2.2.2.2.1 x.2.2.2.2.2.1 x.2.2.2.2.2.2.1 x.2.2.2.2.2.2.2 := if_pos h1
  rw [e]
  refine rdX_t h10 (fun y o' q => ?_) ha
  rw [q] at hc
  rcases hc with hc | hc
  · exact absurd hc (by show ¬ o'.length + 1 = 0; omega)
  · exact hc
theorem rd_sw {c : Nat → Int} {N : Nat} {x : RdT} (h1 : x.1 = 1) (h10 : ¬ c x.2.1 = 10) (hl : 1 ≤ x.2.2.2.2.2.1.length) (hc : ¬ c x.2.1 = (if (x.2.2.2.2.2.1.getD 0 (0, 0)).1 = 4 then 93 else 125)) (ha : ¬ x.2.1 < N) : rdS c N x = (0, x.2) := by
  obtain ⟨f, a, t, k, n, o, r, u⟩ := x
  have e1 : f = 1 := h1
  subst e1
  cases o with
  | nil => exact absurd hl (by show ¬ 1 ≤ 0; decide)
  | cons y o => exact (if_pos rfl).trans (rdX_w h10 hc ha)
def rdTh (N : Nat) (x : RdT) : Nat := if x.1 = 1 ∧ (x.2.1 < N ∨ 1 ≤ x.2.2.2.2.2.1.length) then 2 else 0
theorem rdTh_2 {N : Nat} {x : RdT} (h : x.1 = 1) (h2 : x.2.1 < N ∨ 1 ≤ x.2.2.2.2.2.1.length) : rdTh N x = 2 ∧ ¬ rdEn N x := ⟨if_pos ⟨h, h2⟩, fun q => by
  rcases q with q | ⟨_, q1, q2⟩
  · omega
  · rw [q2] at h2
    rcases h2 with h2 | h2
    · exact q1 h2
    · exact absurd h2 (by decide)⟩
theorem rdTh_0 {N : Nat} {x : RdT} (h : rdEn N x) : rdTh N x = 0 := if_neg (fun q => by
  rcases h with h | ⟨_, q1, q2⟩
  · omega
  · rw [q2] at q
    rcases q.2 with h2 | h2
    · exact q1 h2
    · exact absurd h2 (by decide))
theorem rdEn_1 {N : Nat} {x : RdT} (h : x.1 = 1) (h1 : ¬ x.2.1 < N) (h2 : x.2.2.2.2.2.1.length = 0) : rdEn N x := Or.inr ⟨h, h1, List.eq_nil_of_length_eq_zero h2⟩
def rdX0 : RdT := (1, 0, 0, 0, 0, [], (fun _ => (0, 0, 0, [], [], 0)), (fun _ => -1))
/-- a program as it lies -/
def zPg (g : Nat) (x : RdT) (I : ZI) : Prop := I 238 (600 * g + x.2.2.1) = 20 ∧ orA g x.2.2.2.1 x.2.2.1 x.2.2.2.2.2.2.1 I ∧ ∀ f : Nat, f < 26 → I 244 (26 * g + f) = x.2.2.2.2.2.2.2 f
/-- no run -/
def zFg (I L : ZI) : Prop := (∀ v : Nat, v < 26 → L 253 v = 0) ∧ L 234 35 = 0 ∧ I 234 36 = 0 ∧ I 234 38 = 0 ∧ I 234 46 = 0 ∧ I 234 47 = -1 ∧ I 234 48 = 0
theorem zPg_fr {g : Nat} {x : RdT} {I I' : ZI} (h : zPg g x I) (hf : ∀ c j : Nat, 238 ≤ c → c ≤ 246 → I' c j = I c j) : zPg g x I' := ⟨(hf 238 _ (by decide) (by decide)).trans h.1, orA_fr h.2.1 (Nat.le_refl _) (fun c j h1 h2 _ => hf c j h1 (by omega)) (fun c j h1 _ => hf c j (by omega) (by omega)), fun f hf2 => (hf 244 _ (by decide) (by decide)).trans (h.2.2 f hf2)⟩
