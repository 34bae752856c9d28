/-! THE STORE: what a log tells -/
noncomputable def zite {α : Type} (P : Prop) (a b : α) : α := @ite α P (Classical.propDecidable P) a b
theorem zite_t {α : Type} {P : Prop} {a b : α} (h : P) : zite P a b = a := if_pos h
theorem zite_f {α : Type} {P : Prop} {a b : α} (h : ¬ P) : zite P a b = b := if_neg h
/-- the lowest one below n, or -1 -/
noncomputable def zlow (P : Nat → Prop) : Nat → Int
  | 0 => -1
  | n + 1 => if zlow P n = -1 then zite (P n) (n : Int) (-1) else zlow P n
theorem zlow_no {P : Nat → Prop} : ∀ {n : Nat}, (∀ b, b < n → ¬ P b) → zlow P n = -1
  | 0, _ => rfl
  | n + 1, h => by
    unfold zlow
    rw [if_pos (zlow_no (fun b hb => h b (by omega))), zite_f (h n (by omega))]
theorem zlow_at {P : Nat → Prop} {r : Nat} (hp : P r) (hl : ∀ b, b < r → ¬ P b) : ∀ {n : Nat}, r < n → zlow P n = r
  | 0, h => absurd h (Nat.not_lt_zero r)
  | n + 1, h => by
    unfold zlow
    by_cases e : r = n
    · subst e
      rw [if_pos (zlow_no hl), zite_t hp]
    · have h1 := zlow_at hp hl (n := n) (by omega)
      rw [h1, if_neg (by omega)]
theorem zlow_sp (P : Nat → Prop) : ∀ n, (zlow P n = -1 ∧ ∀ b, b < n → ¬ P b) ∨ zex (fun r => r < n ∧ zlow P n = r ∧ P r ∧ ∀ b, b < r → ¬ P b)
  | 0 => Or.inl ⟨rfl, fun b h => absurd h (Nat.not_lt_zero b)⟩
  | n + 1 => by
    rcases zlow_sp P n with ⟨h1, h2⟩ | ⟨r, h1, h2, h3, h4⟩
    · by_cases e : P n
      · exact Or.inr ⟨n, by omega, by unfold zlow; rw [if_pos h1, zite_t e], e, h2⟩
      · refine Or.inl ⟨by unfold zlow; rw [if_pos h1, zite_f e], fun b hb => ?_⟩
        by_cases e2 : b = n
        · rw [e2]; exact e
        · exact h2 b (by omega)
    · exact Or.inr ⟨r, by omega, zlow_at h3 h4 (by omega), h3, h4⟩
/-- blocks, editions, where a block's bytes begin, their number, whether it is there; an edition's number of blocks, its blocks, whether it is dropped -/
abbrev StS : Type := Nat × Nat × (Nat → Nat) × (Nat → Nat) × (Nat → Nat) × (Nat → Nat) × (Nat → Nat → Nat) × (Nat → Nat)
abbrev sB (s : StS) : Nat := s.1
abbrev sV (s : StS) : Nat := s.2.1
abbrev sF (s : StS) : Nat → Nat := s.2.2.1
abbrev sL (s : StS) : Nat → Nat := s.2.2.2.1
abbrev sT (s : StS) : Nat → Nat := s.2.2.2.2.1
abbrev sC (s : StS) : Nat → Nat := s.2.2.2.2.2.1
abbrev sR (s : StS) : Nat → Nat → Nat := s.2.2.2.2.2.2.1
abbrev sD (s : StS) : Nat → Nat := s.2.2.2.2.2.2.2
def up2 (f : Nat → Nat → Nat) (v k x a b : Nat) : Nat := if a = v ∧ b = k then x else f a b
def stApp (b : Nat) (s : StS) : StS := (sB s, sV s, sF s, sL s, sT s, upF (sC s) (sV s) (sC s (sV s) + 1), up2 (sR s) (sV s) (sC s (sV s)) b, sD s)
def stNw (a n : Nat) (s : StS) : StS := (sB s + 1, sV s, upF (sF s) (sB s) a, upF (sL s) (sB s) n, upF (sT s) (sB s) 1, sC s, sR s, sD s)
def stClo (s : StS) : StS := (sB s, sV s + 1, sF s, sL s, sT s, upF (sC s) (sV s + 1) 0, sR s, upF (sD s) (sV s + 1) 0)
def stDrp (e : Nat) (s : StS) : StS := (sB s, sV s, sF s, sL s, sT s, upF (sC s) e 0, sR s, upF (sD s) e 1)
def stHeld (s : StS) (b : Nat) : Prop := ∃ v k, v ≤ sV s ∧ k < sC s v ∧ sR s v k = b
noncomputable def stSwp (s : StS) : StS := (sB s, sV s, sF s, sL s, fun b => zite (stHeld s b) (sT s b) 0, sC s, sR s, sD s)
/-- how many a sweep finds below n -/
noncomputable def stSwN (s : StS) : Nat → Nat
  | 0 => 0
  | b + 1 => stSwN s b + zite (sT s b = 1 ∧ ¬ stHeld s b) 1 0
noncomputable def stAct (g : Nat → Int) (a : Nat) (s : StS) : StS := if g a = 1 then stApp (sB s) (stNw (a + 2) (g (a + 1)).toNat s) else if g a = 2 then stApp (g (a + 1)).toNat s else if g a = 3 then stClo s else if g a = 4 then stDrp (g (a + 1)).toNat s else stSwp s
def stSz (g : Nat → Int) (a : Nat) : Nat := if g a = 1 then 2 + (g (a + 1)).toNat else if g a = 2 ∨ g a = 4 then 2 else 1
def st0 : StS := (0, 0, fun _ => 0, fun _ => 0, fun _ => 0, fun _ => 0, fun _ _ => 0, fun _ => 0)
noncomputable def stN (g : Nat → Int) : Nat → Nat × StS
  | 0 => (0, st0)
  | n + 1 => ((stN g n).1 + stSz g (stN g n).1, stAct g (stN g n).1 (stN g n).2)
/-- a record that is one -/
def stOk (g : Nat → Int) (a : Nat) (s : StS) : Prop := a + stSz g a ≤ 400 ∧ ((g a = 1 ∧ 0 ≤ g (a + 1) ∧ g (a + 1) ≤ 24 ∧ sB s < 24 ∧ sC s (sV s) < 8) ∨ (g a = 2 ∧ 0 ≤ g (a + 1) ∧ g (a + 1) < sB s ∧ sC s (sV s) < 8) ∨ (g a = 3 ∧ sV s < 12) ∨ (g a = 4 ∧ 0 ≤ g (a + 1) ∧ g (a + 1) < sV s) ∨ g a = 5)
def stG (a : Nat) (s : StS) : Prop := sB s ≤ 24 ∧ sV s ≤ 12 ∧ (∀ v, v ≤ sV s → sC s v ≤ 8 ∧ sD s v ≤ 1 ∧ ∀ k, k < sC s v → sR s v k < sB s) ∧ ∀ b, b < sB s → sL s b ≤ 24 ∧ sT s b ≤ 1 ∧ sF s b + sL s b ≤ a
theorem stG_app {a b : Nat} {s : StS} (h : stG a s) (hb : b < sB s) (hc : sC s (sV s) < 8) : stG a (stApp b s) := by
  obtain ⟨h1, h2, h3, h4⟩ := h
  refine ⟨h1, h2, fun v hv => ?_, h4⟩
  obtain ⟨q1, q2, q3⟩ := h3 v hv
  show upF (sC s) (sV s) (sC s (sV s) + 1) v ≤ 8 ∧ sD s v ≤ 1 ∧ ∀ k, k < upF (sC s) (sV s) (sC s (sV s) + 1) v → up2 (sR s) (sV s) (sC s (sV s)) b v k < sB s
  unfold upF up2
  by_cases e : v = sV s
  · rw [if_pos e]
    refine ⟨by omega, q2, fun k hk => ?_⟩
    split
    · exact hb
    · next h9 =>
      subst e
      exact q3 k (by omega)
  · rw [if_neg e]
    refine ⟨q1, q2, fun k hk => ?_⟩
    rw [if_neg (by omega)]
    exact q3 k hk
theorem stG_le {a a' : Nat} {s : StS} (h : stG a s) (ha : a ≤ a') : stG a' s := ⟨h.1, h.2.1, h.2.2.1, fun b hb => by have := h.2.2.2 b hb; omega⟩
theorem stG_nw {a n : Nat} {s : StS} (h : stG a s) (hb : sB s < 24) (hn : n ≤ 24) : stG (a + 2 + n) (stNw (a + 2) n s) := by
  obtain ⟨h1, h2, h3, h4⟩ := h
  refine ⟨hb, h2, fun v hv => ?_, fun b h9 => ?_⟩
  · obtain ⟨q1, q2, q3⟩ := h3 v hv
    exact ⟨q1, q2, fun k hk => Nat.lt_succ_of_lt (q3 k hk)⟩
  · show upF (sL s) (sB s) n b ≤ 24 ∧ upF (sT s) (sB s) 1 b ≤ 1 ∧ upF (sF s) (sB s) (a + 2) b + upF (sL s) (sB s) n b ≤ a + 2 + n
    unfold upF
    by_cases e : b = sB s
    · rw [if_pos e, if_pos e, if_pos e]; omega
    · rw [if_neg e, if_neg e, if_neg e]
      have := h4 b (by have h8 : b < sB s + 1 := h9; omega)
      omega
theorem stSz_2 {g : Nat → Int} {a : Nat} (h : g a = 2 ∨ g a = 4) : stSz g a = 2 := (if_neg (by omega)).trans (if_pos h)
theorem stSz_3 {g : Nat → Int} {a : Nat} (h : g a = 3 ∨ g a = 5) : stSz g a = 1 := (if_neg (by omega)).trans (if_neg (by omega))
theorem stAct_1 {g : Nat → Int} {a : Nat} {s : StS} (h : g a = 1) : stAct g a s = stApp (sB s) (stNw (a + 2) (g (a + 1)).toNat s) := if_pos h
theorem stAct_2 {g : Nat → Int} {a : Nat} {s : StS} (h : g a = 2) : stAct g a s = stApp (g (a + 1)).toNat s := (if_neg (by omega)).trans (if_pos h)
theorem stAct_3 {g : Nat → Int} {a : Nat} {s : StS} (h : g a = 3) : stAct g a s = stClo s := (if_neg (by omega)).trans ((if_neg (by omega)).trans (if_pos h))
theorem stAct_4 {g : Nat → Int} {a : Nat} {s : StS} (h : g a = 4) : stAct g a s = stDrp (g (a + 1)).toNat s := (if_neg (by omega)).trans ((if_neg (by omega)).trans ((if_neg (by omega)).trans (if_pos h)))
theorem stAct_5 {g : Nat → Int} {a : Nat} {s : StS} (h : g a = 5) : stAct g a s = stSwp s := (if_neg (by omega)).trans ((if_neg (by omega)).trans ((if_neg (by omega)).trans (if_neg (by omega))))
theorem stG_act {g : Nat → Int} {a : Nat} {s : StS} (h : stG a s) (ho : stOk g a s) : stG (a + stSz g a) (stAct g a s) := by
  obtain ⟨h1, ho⟩ := ho
  rcases ho with ⟨q, q1, q2, q3, q4⟩ | ⟨q, q1, q2, q3⟩ | ⟨q, q1⟩ | ⟨q, q1, q2⟩ | q
  · rw [stAct_1 q, show stSz g a = 2 + (g (a + 1)).toNat from if_pos q]
    have w := stG_nw (n := (g (a + 1)).toNat) h q3 (by omega)
    rw [show a + (2 + (g (a + 1)).toNat) = a + 2 + (g (a + 1)).toNat by omega]
    exact stG_app w (Nat.lt_succ_self _) q4
  · rw [stAct_2 q, stSz_2 (Or.inl q)]
    exact stG_le (stG_app h (by omega) q3) (by omega)
  · rw [stAct_3 q, stSz_3 (Or.inl q)]
    obtain ⟨h2, h3, h4, h5⟩ := h
    refine ⟨h2, by show sV s + 1 ≤ 12; omega, fun v hv => ?_, fun b hb => by have := h5 b hb; exact ⟨this.1, this.2.1, by show sF s b + sL s b ≤ a + 1; omega⟩⟩
    show upF (sC s) (sV s + 1) 0 v ≤ 8 ∧ upF (sD s) (sV s + 1) 0 v ≤ 1 ∧ ∀ k, k < upF (sC s) (sV s + 1) 0 v → sR s v k < sB s
    unfold upF
    by_cases e : v = sV s + 1
    · rw [if_pos e, if_pos e]
      exact ⟨by omega, by omega, fun k hk => absurd hk (Nat.not_lt_zero k)⟩
    · rw [if_neg e, if_neg e]
      exact h4 v (by have h8 : v ≤ sV s + 1 := hv; omega)
  · rw [stAct_4 q, stSz_2 (Or.inr q)]
    obtain ⟨h2, h3, h4, h5⟩ := h
    refine ⟨h2, h3, fun v hv => ?_, fun b hb => by have := h5 b hb; exact ⟨this.1, this.2.1, by show sF s b + sL s b ≤ a + 2; omega⟩⟩
    show upF (sC s) (g (a + 1)).toNat 0 v ≤ 8 ∧ upF (sD s) (g (a + 1)).toNat 1 v ≤ 1 ∧ ∀ k, k < upF (sC s) (g (a + 1)).toNat 0 v → sR s v k < sB s
    unfold upF
    by_cases e : v = (g (a + 1)).toNat
    · rw [if_pos e, if_pos e]
      exact ⟨by omega, by omega, fun k hk => absurd hk (Nat.not_lt_zero k)⟩
    · rw [if_neg e, if_neg e]
      exact h4 v hv
  · rw [stAct_5 q, stSz_3 (Or.inr q)]
    obtain ⟨h2, h3, h4, h5⟩ := h
    refine ⟨h2, h3, h4, fun b hb => ?_⟩
    have w := h5 b hb
    refine ⟨w.1, ?_, by show sF s b + sL s b ≤ a + 1; omega⟩
    show zite (stHeld s b) (sT s b) 0 ≤ 1
    by_cases e : stHeld s b
    · rw [zite_t e]; exact w.2.1
    · rw [zite_f e]; omega
theorem stSz_1 (g : Nat → Int) (a : Nat) : 1 ≤ stSz g a := by
  unfold stSz
  split
  · omega
  · split <;> omega
theorem stN_1 (g : Nat → Int) : ∀ {i j : Nat}, i ≤ j → (stN g i).1 + (j - i) ≤ (stN g j).1
  | i, 0, h => by obtain rfl : i = 0 := by omega
                  omega
  | i, j + 1, h => by
    by_cases e : i = j + 1
    · subst e; omega
    · have h1 := stN_1 g (show i ≤ j by omega)
      have h2 := stSz_1 g (stN g j).1
      show _ ≤ (stN g j).1 + stSz g (stN g j).1
      omega
theorem stG_0 : stG 0 st0 := ⟨Nat.zero_le _, Nat.zero_le _, fun v _ => ⟨Nat.zero_le _, Nat.zero_le _, fun k hk => absurd hk (Nat.not_lt_zero k)⟩, fun b hb => absurd hb (Nat.not_lt_zero b)⟩
theorem stN_G {g : Nat → Int} : ∀ {m : Nat}, (∀ i, i < m → stOk g (stN g i).1 (stN g i).2) → stG (stN g m).1 (stN g m).2 ∧ (stN g m).1 ≤ 400
  | 0, _ => ⟨stG_0, Nat.zero_le _⟩
  | m + 1, h => by
    have w := stN_G (m := m) (fun i hi => h i (by omega))
    exact ⟨stG_act w.1 (h m (by omega)), (h m (by omega)).1⟩
theorem stSz_ext {g g' : Nat → Int} {a n : Nat} (hn : a + stSz g a ≤ n) (h : ∀ j, j < n → g j = g' j) : stSz g' a = stSz g a := by
  have h1 := stSz_1 g a
  have e0 := h a (by omega)
  unfold stSz at *
  rw [← e0]
  split
  · next q =>
    rw [if_pos q] at hn
    rw [h (a + 1) (by omega)]
  · rfl
theorem stAct_ext {g g' : Nat → Int} {a n : Nat} {s : StS} (hn : a + stSz g a ≤ n) (h : ∀ j, j < n → g j = g' j) : stAct g' a s = stAct g a s := by
  have h1 := stSz_1 g a
  have e0 := h a (by omega)
  unfold stSz at hn
  unfold stAct
  rw [← e0]
  by_cases q : g a = 1
  · rw [if_pos q] at hn
    rw [h (a + 1) (by omega)]
  · rw [if_neg q] at hn
    rw [if_neg q, if_neg q]
    by_cases q2 : g a = 2
    · rw [if_pos (Or.inl q2)] at hn
      rw [h (a + 1) (by omega)]
    · rw [if_neg q2, if_neg q2]
      by_cases q3 : g a = 4
      · rw [if_pos (Or.inr q3)] at hn
        rw [h (a + 1) (by omega)]
      · rw [if_neg q3, if_neg q3]
theorem stN_ext {g g' : Nat → Int} {n : Nat} (h : ∀ j, j < n → g j = g' j) : ∀ {m : Nat}, (stN g m).1 ≤ n → stN g' m = stN g m
  | 0, _ => rfl
  | m + 1, hn => by
    have h2 : (stN g m).1 + stSz g (stN g m).1 ≤ n := hn
    have w := stN_ext h (m := m) (by omega)
    show ((stN g' m).1 + stSz g' (stN g' m).1, stAct g' (stN g' m).1 (stN g' m).2) = ((stN g m).1 + stSz g (stN g m).1, stAct g (stN g m).1 (stN g m).2)
    rw [w, stSz_ext h2 h, stAct_ext h2 h]
theorem stOk_ext {g g' : Nat → Int} {a n : Nat} {s : StS} (hn : a + stSz g a ≤ n) (h : ∀ j, j < n → g j = g' j) (ho : stOk g a s) : stOk g' a s := by
  have h1 := stSz_1 g a
  have e0 := h a (by omega)
  have e1 := stSz_ext hn h
  unfold stOk at *
  rw [e1, ← e0]
  refine ⟨ho.1, ?_⟩
  unfold stSz at hn
  rcases ho.2 with q | q | q | q | q
  · rw [if_pos q.1] at hn
    rw [← h (a + 1) (by omega)]
    exact Or.inl q
  · rw [if_neg (by omega), if_pos (Or.inl q.1)] at hn
    rw [← h (a + 1) (by omega)]
    exact Or.inr (Or.inl q)
  · exact Or.inr (Or.inr (Or.inl q))
  · rw [if_neg (by omega), if_pos (Or.inr q.1)] at hn
    rw [← h (a + 1) (by omega)]
    exact Or.inr (Or.inr (Or.inr (Or.inl q)))
  · exact Or.inr (Or.inr (Or.inr (Or.inr q)))
/-- a log of so many bytes, of which m records are whole -/
def stLg (g : Nat → Int) (m sz : Nat) : Prop := (∀ i, i < m → stOk g (stN g i).1 (stN g i).2) ∧ (stN g m).1 ≤ sz ∧ sz ≤ 400 ∧ ((stN g m).1 = sz ∨ (stOk g (stN g m).1 (stN g m).2 ∧ sz < (stN g m).1 + stSz g (stN g m).1))
/-- what lies in the arrays of either side -/
def zST (o bf vf l t c r d : Nat) (s : StS) (I : ZI) : Prop := I o bf = sB s ∧ I o vf = sV s ∧ (∀ b : Nat, b < sB s → I l b = sL s b ∧ I t b = sT s b) ∧ ∀ v : Nat, v ≤ sV s → I c v = sC s v ∧ I d v = sD s v ∧ ∀ k : Nat, k < sC s v → I r (8 * v + k) = sR s v k
theorem zST_f {o bf vf l t c r d : Nat} {s : StS} {I I' : ZI} (h : zST o bf vf l t c r d s I) (hf : ∀ x j, (x = o ∧ j = bf) ∨ (x = o ∧ j = vf) ∨ x = l ∨ x = t ∨ x = c ∨ x = r ∨ x = d → I' x j = I x j) : zST o bf vf l t c r d s I' :=
  ⟨(hf _ _ (Or.inl ⟨rfl, rfl⟩)).trans h.1, (hf _ _ (Or.inr (Or.inl ⟨rfl, rfl⟩))).trans h.2.1, fun b hb => ⟨(hf _ _ (Or.inr (Or.inr (Or.inl rfl)))).trans (h.2.2.1 b hb).1, (hf _ _ (Or.inr (Or.inr (Or.inr (Or.inl rfl))))).trans (h.2.2.1 b hb).2⟩, fun v hv => ⟨(hf _ _ (Or.inr (Or.inr (Or.inr (Or.inr (Or.inl rfl)))))).trans (h.2.2.2 v hv).1, (hf _ _ (Or.inr (Or.inr (Or.inr (Or.inr (Or.inr (Or.inr rfl))))))).trans (h.2.2.2 v hv).2.1, fun k hk => (hf _ _ (Or.inr (Or.inr (Or.inr (Or.inr (Or.inr (Or.inl rfl))))))).trans ((h.2.2.2 v hv).2.2 k hk)⟩⟩
abbrev zCS (s : StS) (I : ZI) : Prop := zST 145 5 9 148 149 151 150 152 s I
abbrev zMS (s : StS) (I : ZI) : Prop := zST 268 11 15 275 276 277 278 279 s I
theorem zCS_fr {s : StS} {I I' : ZI} (h : zCS s I) (hf : ∀ c j, (c = 145 ∧ (j = 5 ∨ j = 9)) ∨ (148 ≤ c ∧ c ≤ 152) → I' c j = I c j) : zCS s I' := zST_f h (fun x j q => hf x j (by omega))
theorem zMS_fr {s : StS} {I I' : ZI} (h : zMS s I) (hf : ∀ c j, (c = 268 ∧ (j = 11 ∨ j = 15)) ∨ (275 ≤ c ∧ c ≤ 279) → I' c j = I c j) : zMS s I' := zST_f h (fun x j q => hf x j (by omega))
/-- the class's copies of the bytes; where the reference has them -/
def zCY (g : Nat → Int) (s : StS) (I : ZI) : Prop := ∀ b i : Nat, b < sB s → i < sL s b → I 147 (24 * b + i) = g (sF s b + i)
def zMF (s : StS) (I : ZI) : Prop := ∀ b : Nat, b < sB s → I 274 b = sF s b
theorem zCY_fr {g : Nat → Int} {s : StS} {I I' : ZI} (h : zCY g s I) (hf : ∀ c j, c = 147 → I' c j = I c j) : zCY g s I' := fun b i h1 h2 => (hf _ _ rfl).trans (h b i h1 h2)
theorem zMF_fr {s : StS} {I I' : ZI} (h : zMF s I) (hf : ∀ c j, c = 274 → I' c j = I c j) : zMF s I' := fun b h1 => (hf _ _ rfl).trans (h b h1)
theorem zST_app {o bf vf l t c r d b : Nat} {s : StS} {I I' : ZI} (h : zST o bf vf l t c r d s I) (hc : I' c (sV s) = sC s (sV s) + 1) (hr : I' r (8 * sV s + sC s (sV s)) = b) (h8 : ∀ v, v ≤ sV s → sC s v ≤ 8)
  (hf : ∀ x j, (x = o ∧ j = bf) ∨ (x = o ∧ j = vf) ∨ x = l ∨ x = t ∨ (x = c ∧ j ≠ sV s) ∨ (x = r ∧ j ≠ 8 * sV s + sC s (sV s)) ∨ x = d → I' x j = I x j) (h9 : sC s (sV s) < 8) : zST o bf vf l t c r d (stApp b s) I' := by
  refine ⟨(hf _ _ (Or.inl ⟨rfl, rfl⟩)).trans h.1, (hf _ _ (Or.inr (Or.inl ⟨rfl, rfl⟩))).trans h.2.1, fun b hb => ⟨(hf _ _ (Or.inr (Or.inr (Or.inl rfl)))).trans (h.2.2.1 b hb).1, (hf _ _ (Or.inr (Or.inr (Or.inr (Or.inl rfl))))).trans (h.2.2.1 b hb).2⟩, fun v hv => ?_⟩
  have w := h.2.2.2 v hv
  have q := h8 v hv
  show I' c v = upF (sC s) (sV s) (sC s (sV s) + 1) v ∧ I' d v = sD s v ∧ ∀ k : Nat, k < upF (sC s) (sV s) (sC s (sV s) + 1) v → I' r (8 * v + k) = up2 (sR s) (sV s) (sC s (sV s)) b v k
  unfold upF up2
  by_cases e : v = sV s
  · subst e
    rw [if_pos rfl]
    refine ⟨hc, (hf _ _ (Or.inr (Or.inr (Or.inr (Or.inr (Or.inr (Or.inr rfl))))))).trans w.2.1, fun k hk => ?_⟩
    by_cases e2 : k = sC s (sV s)
    · subst e2
      rw [if_pos ⟨rfl, rfl⟩]
      exact hr
    · rw [if_neg (fun q => e2 q.2)]
      exact (hf _ _ (Or.inr (Or.inr (Or.inr (Or.inr (Or.inr (Or.inl ⟨rfl, by omega⟩))))))).trans (w.2.2 k (by omega))
  · rw [if_neg e]
    refine ⟨(hf _ _ (Or.inr (Or.inr (Or.inr (Or.inr (Or.inl ⟨rfl, e⟩)))))).trans w.1, (hf _ _ (Or.inr (Or.inr (Or.inr (Or.inr (Or.inr (Or.inr rfl))))))).trans w.2.1, fun k hk => ?_⟩
    rw [if_neg (fun q => e q.1)]
    have hv2 : v ≤ sV s := hv
    exact (hf _ _ (Or.inr (Or.inr (Or.inr (Or.inr (Or.inr (Or.inl ⟨rfl, by omega⟩))))))).trans (w.2.2 k hk)
theorem zST_clo {o bf vf l t c r d : Nat} {s : StS} {I I' : ZI} (h : zST o bf vf l t c r d s I) (hv : I' o vf = sV s + 1) (hc : I' c (sV s + 1) = 0) (hd : I' d (sV s + 1) = 0)
  (hf : ∀ x j, (x = o ∧ j = bf) ∨ x = l ∨ x = t ∨ (x = c ∧ j ≠ sV s + 1) ∨ x = r ∨ (x = d ∧ j ≠ sV s + 1) → I' x j = I x j) : zST o bf vf l t c r d (stClo s) I' := by
  refine ⟨(hf _ _ (Or.inl ⟨rfl, rfl⟩)).trans h.1, hv, fun b hb => ⟨(hf _ _ (Or.inr (Or.inl rfl))).trans (h.2.2.1 b hb).1, (hf _ _ (Or.inr (Or.inr (Or.inl rfl)))).trans (h.2.2.1 b hb).2⟩, fun v hv => ?_⟩
  show I' c v = upF (sC s) (sV s + 1) 0 v ∧ I' d v = upF (sD s) (sV s + 1) 0 v ∧ ∀ k : Nat, k < upF (sC s) (sV s + 1) 0 v → I' r (8 * v + k) = sR s v k
  unfold upF
  by_cases e : v = sV s + 1
  · subst e
    rw [if_pos rfl, if_pos rfl]
    exact ⟨hc, hd, fun k hk => absurd hk (Nat.not_lt_zero k)⟩
  · have w := h.2.2.2 v (by have h8 : v ≤ sV s + 1 := hv; omega)
    rw [if_neg e, if_neg e]
    exact ⟨(hf _ _ (Or.inr (Or.inr (Or.inr (Or.inl ⟨rfl, e⟩))))).trans w.1, (hf _ _ (Or.inr (Or.inr (Or.inr (Or.inr (Or.inr ⟨rfl, e⟩)))))).trans w.2.1, fun k hk => (hf _ _ (Or.inr (Or.inr (Or.inr (Or.inr (Or.inl rfl)))))).trans (w.2.2 k hk)⟩
theorem zST_drp {o bf vf l t c r d e : Nat} {s : StS} {I I' : ZI} (h : zST o bf vf l t c r d s I) (hc : I' c e = 0) (hd : I' d e = 1)
  (hf : ∀ x j, (x = o ∧ j = bf) ∨ (x = o ∧ j = vf) ∨ x = l ∨ x = t ∨ (x = c ∧ j ≠ e) ∨ x = r ∨ (x = d ∧ j ≠ e) → I' x j = I x j) : zST o bf vf l t c r d (stDrp e s) I' := by
  refine ⟨(hf _ _ (Or.inl ⟨rfl, rfl⟩)).trans h.1, (hf _ _ (Or.inr (Or.inl ⟨rfl, rfl⟩))).trans h.2.1, fun b hb => ⟨(hf _ _ (Or.inr (Or.inr (Or.inl rfl)))).trans (h.2.2.1 b hb).1, (hf _ _ (Or.inr (Or.inr (Or.inr (Or.inl rfl))))).trans (h.2.2.1 b hb).2⟩, fun v hv => ?_⟩
  have w := h.2.2.2 v hv
  show I' c v = upF (sC s) e 0 v ∧ I' d v = upF (sD s) e 1 v ∧ ∀ k : Nat, k < upF (sC s) e 0 v → I' r (8 * v + k) = sR s v k
  unfold upF
  by_cases q : v = e
  · subst q
    rw [if_pos rfl, if_pos rfl]
    exact ⟨hc, hd, fun k hk => absurd hk (Nat.not_lt_zero k)⟩
  · rw [if_neg q, if_neg q]
    exact ⟨(hf _ _ (Or.inr (Or.inr (Or.inr (Or.inr (Or.inl ⟨rfl, q⟩)))))).trans w.1, (hf _ _ (Or.inr (Or.inr (Or.inr (Or.inr (Or.inr (Or.inr ⟨rfl, q⟩))))))).trans w.2.1, fun k hk => (hf _ _ (Or.inr (Or.inr (Or.inr (Or.inr (Or.inr (Or.inl rfl))))))).trans (w.2.2 k hk)⟩
theorem zST_nw {o bf vf l t c r d a n : Nat} {s : StS} {I I' : ZI} (h : zST o bf vf l t c r d s I) (hb : I' o bf = sB s + 1) (hl : I' l (sB s) = n) (ht : I' t (sB s) = 1)
  (hf : ∀ x j, (x = o ∧ j = vf) ∨ (x = l ∧ j ≠ sB s) ∨ (x = t ∧ j ≠ sB s) ∨ x = c ∨ x = r ∨ x = d → I' x j = I x j) : zST o bf vf l t c r d (stNw a n s) I' := by
  refine ⟨hb, (hf _ _ (Or.inl ⟨rfl, rfl⟩)).trans h.2.1, fun b hb => ?_, fun v hv => ⟨(hf _ _ (Or.inr (Or.inr (Or.inr (Or.inl rfl))))).trans (h.2.2.2 v hv).1, (hf _ _ (Or.inr (Or.inr (Or.inr (Or.inr (Or.inr rfl)))))).trans (h.2.2.2 v hv).2.1, fun k hk => (hf _ _ (Or.inr (Or.inr (Or.inr (Or.inr (Or.inl rfl)))))).trans ((h.2.2.2 v hv).2.2 k hk)⟩⟩
  show I' l b = upF (sL s) (sB s) n b ∧ I' t b = upF (sT s) (sB s) 1 b
  unfold upF
  by_cases e : b = sB s
  · subst e
    rw [if_pos rfl, if_pos rfl]
    exact ⟨hl, ht⟩
  · have w := h.2.2.1 b (by have h8 : b < sB s + 1 := hb; omega)
    rw [if_neg e, if_neg e]
    exact ⟨(hf _ _ (Or.inr (Or.inl ⟨rfl, e⟩))).trans w.1, (hf _ _ (Or.inr (Or.inr (Or.inl ⟨rfl, e⟩)))).trans w.2⟩
theorem stSwN_le (s : StS) : ∀ n, stSwN s n ≤ n
  | 0 => Nat.le_refl 0
  | n + 1 => by
    have h := stSwN_le s n
    unfold stSwN
    by_cases e : sT s n = 1 ∧ ¬ stHeld s n
    · rw [zite_t e]; omega
    · rw [zite_f e]; omega
theorem stSz_k {g : Nat → Int} {a : Nat} {s : StS} (h : stOk g a s) : (g a = 1 ∧ stSz g a = 2 + (g (a + 1)).toNat) ∨ (g a = 2 ∧ stSz g a = 2) ∨ (g a = 3 ∧ stSz g a = 1) ∨ (g a = 4 ∧ stSz g a = 2) ∨ (g a = 5 ∧ stSz g a = 1) := by
  obtain ⟨-, ho⟩ := h
  rcases ho with q | q | q | q | q
  · exact Or.inl ⟨q.1, if_pos q.1⟩
  · exact Or.inr (Or.inl ⟨q.1, (if_neg (by omega)).trans (if_pos (Or.inl q.1))⟩)
  · exact Or.inr (Or.inr (Or.inl ⟨q.1, (if_neg (by omega)).trans (if_neg (by omega))⟩))
  · exact Or.inr (Or.inr (Or.inr (Or.inl ⟨q.1, (if_neg (by omega)).trans (if_pos (Or.inr q.1))⟩)))
  · exact Or.inr (Or.inr (Or.inr (Or.inr ⟨q, (if_neg (by omega)).trans (if_neg (by omega))⟩)))
theorem stLg_add {g g' : Nat → Int} {m z : Nat} (h : stLg g m z) (he : (stN g m).1 = z) (hx : ∀ j, j < z → g j = g' j) (hok : stOk g' z (stN g m).2) : stLg g' (m + 1) (z + stSz g' z) ∧ (stN g' (m + 1)).1 = z + stSz g' z ∧ (stN g' (m + 1)).2 = stAct g' z (stN g m).2 := by
  obtain ⟨h1, h2, h3, -⟩ := h
  have e := stN_ext hx (m := m) (by omega)
  have e1 : (stN g' (m + 1)).1 = z + stSz g' z := by
    show (stN g' m).1 + stSz g' (stN g' m).1 = _
    rw [e, he]
  have e2 : (stN g' (m + 1)).2 = stAct g' z (stN g m).2 := by
    show stAct g' (stN g' m).1 (stN g' m).2 = _
    rw [e, he]
  refine ⟨⟨fun i hi => ?_, by omega, hok.1, Or.inl e1⟩, e1, e2⟩
  by_cases q : i = m
  · subst q
    rw [e, he]
    exact hok
  · have w1 := stN_1 g (show i + 1 ≤ m by omega)
    have w2 : (stN g (i + 1)).1 = (stN g i).1 + stSz g (stN g i).1 := rfl
    have w3 := stN_1 g (show i ≤ m by omega)
    rw [stN_ext hx (m := i) (by omega)]
    exact stOk_ext (n := z) (by omega) hx (h1 i (by omega))
theorem stLg_one {g : Nat → Int} {m m' z : Nat} (h : stLg g m z) (h' : stLg g m' z) : m = m' := by
  obtain ⟨h1, h2, h3, h4⟩ := h
  obtain ⟨k1, k2, k3, k4⟩ := h'
  have q : ∀ {a b : Nat}, a < b → (stN g a).1 + stSz g (stN g a).1 ≤ (stN g b).1 := fun {a b} h => by
    have w := stN_1 g (show a + 1 ≤ b by omega)
    have w2 : (stN g (a + 1)).1 = (stN g a).1 + stSz g (stN g a).1 := rfl
    omega
  have q1 := stSz_1 g (stN g m).1
  have q2 := stSz_1 g (stN g m').1
  rcases Nat.lt_trichotomy m m' with e | e | e
  · exfalso
    have w := q e
    rcases h4 with h4 | h4 <;> omega
  · exact e
  · exfalso
    have w := q e
    rcases k4 with k4 | k4 <;> omega
/-- of a log that is cut short some records are whole -/
theorem stLg_cut {g : Nat → Int} {z' : Nat} : ∀ {m z : Nat}, stLg g m z → z' ≤ z → zex (fun k => stLg g k z') := by
  intro m
  induction m with
  | zero =>
    intro z h hz
    obtain ⟨h1, h2, h3, h4⟩ := h
    refine ⟨0, h1, Nat.zero_le _, by omega, ?_⟩
    have e : (stN g 0).1 = 0 := rfl
    rcases h4 with h4 | h4
    · exact Or.inl (by omega)
    · exact Or.inr ⟨h4.1, by omega⟩
  | succ m ih =>
    intro z h hz
    obtain ⟨h1, h2, h3, h4⟩ := h
    have hm := h1 m (by omega)
    have e : (stN g (m + 1)).1 = (stN g m).1 + stSz g (stN g m).1 := rfl
    by_cases q : (stN g (m + 1)).1 ≤ z'
    · refine ⟨m + 1, h1, q, by omega, ?_⟩
      rcases h4 with h4 | h4
      · exact Or.inl (by omega)
      · exact Or.inr ⟨h4.1, by omega⟩
    · exact ih (z := (stN g m).1 + stSz g (stN g m).1 - 1) ⟨fun i hi => h1 i (by omega), by have := stSz_1 g (stN g m).1; omega, by omega, Or.inr ⟨hm, by have := stSz_1 g (stN g m).1; omega⟩⟩ (by omega)
/-- the class's store -/
def zCL (g : Nat → Int) (m : Nat) (s : StS) (z cr cn : Nat) (I : ZI) : Prop := I 145 1 = z ∧ I 145 10 = cr ∧ I 145 11 = cn ∧ (∀ j : Nat, j < 400 → I 146 j = g j) ∧ (cr ≤ 1 ∧ cn ≤ 16 ∧ s = (stN g m).2 ∧ stLg g m z) ∧ (cr = 0 → (stN g m).1 = z ∧ zCS s I ∧ zCY g s I)
theorem zCL_fr {g : Nat → Int} {m : Nat} {s : StS} {z cr cn : Nat} {I I' : ZI} (h : zCL g m s z cr cn I) (hf : ∀ c j, (c = 145 ∧ (j = 1 ∨ j = 5 ∨ j = 9 ∨ j = 10 ∨ j = 11)) ∨ (146 ≤ c ∧ c ≤ 152) → I' c j = I c j) : zCL g m s z cr cn I' := by
  obtain ⟨h1, h2, h3, h4, h5, h6⟩ := h
  exact ⟨(hf 145 1 (by omega)).trans h1, (hf 145 10 (by omega)).trans h2, (hf 145 11 (by omega)).trans h3, fun j hj => (hf 146 j (by omega)).trans (h4 j hj), h5, fun q => ⟨(h6 q).1, zCS_fr (h6 q).2.1 (fun c j w => hf c j (by omega)), zCY_fr (h6 q).2.2 (fun c j w => hf c j (by omega))⟩⟩
/-- an edition's bytes -/
def stOut (g : Nat → Int) (s : StS) (v : Nat) : Nat → Nat → Int → Int
  | 0, _, _ => -1
  | n + 1, k, x => if x < sL s (sR s v k) then g (sF s (sR s v k) + x.toNat) else stOut g s v n (k + 1) (x - sL s (sR s v k))
def stQ (g : Nat → Int) (s : StS) (cr : Nat) (e i : Int) : Int := if cr = 0 ∧ 0 ≤ e ∧ e < sV s ∧ 0 ≤ i then stOut g s e.toNat (sC s e.toNat) 0 i else -1
/-- a block that has these bytes -/
def stSm (g : Nat → Int) (s : StS) (f : Nat → Int) (n b : Nat) : Prop := sT s b = 1 ∧ sL s b = n ∧ ∀ i, i < n → g (sF s b + i) = f i
def stDv (s : StS) (z cr : Nat) (e : Int) : Int := if cr = 1 then -3 else if ¬ (0 ≤ e ∧ e < sV s) then -2 else if sD s e.toNat = 1 then -4 else if 398 < z then -1 else 0
def stCv (z cr cn : Nat) (k : Int) : Int := if cr = 1 then -3 else if k < 0 ∨ z < k then -2 else if 16 ≤ cn then -1 else 0
noncomputable def stWv (s : StS) (z cr : Nat) : Int := if cr = 1 then -3 else if 400 ≤ z then -1 else stSwN s (sB s)
/-- a log with a record more -/
def lgN (g : Nat → Int) (z n : Nat) (f : Nat → Int) (j : Nat) : Int := if j = z then 1 else if j = z + 1 then n else if z + 2 ≤ j ∧ j < z + 2 + n then f (j - z - 2) else g j
def lg2 (g : Nat → Int) (z : Nat) (k v : Int) (j : Nat) : Int := if j = z then k else if j = z + 1 ∧ v ≠ -1 then v else g j
theorem zCL_add {g g' : Nat → Int} {m : Nat} {s : StS} {z z2 cn : Nat} {I I' : ZI} (h : zCL g m s z 0 cn I) (hx : ∀ j, j < z → g j = g' j) (hok : stOk g' z s) (hz2 : z2 = z + stSz g' z) (h1 : I' 145 1 = z2) (h2 : I' 145 10 = I 145 10) (h3 : I' 145 11 = I 145 11) (h4 : ∀ j : Nat, j < 400 → I' 146 j = g' j) (h5 : zCS (stAct g' z s) I') (h6 : zCY g' (stAct g' z s) I') : zCL g' (m + 1) (stAct g' z s) z2 0 cn I' := by
  obtain ⟨q1, q2, q3, q4, ⟨q5, q6, q7, q8⟩, q9⟩ := h
  have w := q9 rfl
  subst q7
  have e := stLg_add q8 w.1 hx hok
  subst hz2
  exact ⟨h1, h2.trans q2, h3.trans q3, h4, ⟨q5, q6, e.2.2.symm, e.1⟩, fun _ => ⟨e.2.1, h5, h6⟩⟩
theorem lg2_lo {g : Nat → Int} {z : Nat} {k v : Int} : ∀ j, j < z → g j = lg2 g z k v j := fun j h => by
  unfold lg2
  rw [if_neg (by omega), if_neg (by omega)]
theorem lgN_lo {g : Nat → Int} {z n : Nat} {f : Nat → Int} : ∀ j, j < z → g j = lgN g z n f j := fun j h => by
  unfold lgN
  rw [if_neg (by omega), if_neg (by omega), if_neg (by omega)]
theorem lg2_at {g : Nat → Int} {z : Nat} {k v : Int} : lg2 g z k v z = k := if_pos rfl
theorem lg2_at1 {g : Nat → Int} {z : Nat} {k v : Int} (h : v ≠ -1) : lg2 g z k v (z + 1) = v := by
  unfold lg2
  rw [if_neg (by omega), if_pos ⟨rfl, h⟩]
theorem lgN_at {g : Nat → Int} {z n : Nat} {f : Nat → Int} : lgN g z n f z = 1 := if_pos rfl
theorem lgN_at1 {g : Nat → Int} {z n : Nat} {f : Nat → Int} : lgN g z n f (z + 1) = n := by
  unfold lgN
  rw [if_neg (by omega), if_pos rfl]
theorem zCY_lo {g g' : Nat → Int} {s : StS} {z : Nat} {I : ZI} (h : zCY g s I) (hG : stG z s) (hx : ∀ j, j < z → g j = g' j) : zCY g' s I := fun b i h1 h2 => (h b i h1 h2).trans (hx _ (by have := (hG.2.2.2 b h1).2.2; omega))
/-- the log behind a block told: an old one again, or a new one -/
noncomputable def svR (g : Nat → Int) (s : StS) (f : Nat → Int) (n : Nat) : Int := zlow (stSm g s f n) (sB s)
noncomputable def svG (g : Nat → Int) (s : StS) (z : Nat) (f : Nat → Int) (n : Nat) : Nat → Int := if svR g s f n = -1 then lgN g z n f else lg2 g z 2 (svR g s f n)
theorem svR_b (g : Nat → Int) (s : StS) (f : Nat → Int) (n : Nat) : svR g s f n = -1 ∨ (0 ≤ svR g s f n ∧ svR g s f n < sB s) := by
  rcases zlow_sp (stSm g s f n) (sB s) with h | ⟨r, h1, h2, -⟩
  · exact Or.inl h.1
  · right
    unfold svR
    omega
theorem zST_f2 {o bf vf l t c r d : Nat} {s : StS} {I I' : ZI} (h : zST o bf vf l t c r d s I) (hf : ∀ x j, (x = o ∧ j = bf) ∨ (x = o ∧ j = vf) ∨ (x = l ∧ j < sB s) ∨ (x = t ∧ j < sB s) ∨ x = c ∨ x = r ∨ x = d → I' x j = I x j) : zST o bf vf l t c r d s I' :=
  ⟨(hf _ _ (Or.inl ⟨rfl, rfl⟩)).trans h.1, (hf _ _ (Or.inr (Or.inl ⟨rfl, rfl⟩))).trans h.2.1, fun b hb => ⟨(hf _ _ (Or.inr (Or.inr (Or.inl ⟨rfl, hb⟩)))).trans (h.2.2.1 b hb).1, (hf _ _ (Or.inr (Or.inr (Or.inr (Or.inl ⟨rfl, hb⟩))))).trans (h.2.2.1 b hb).2⟩, fun v hv => ⟨(hf _ _ (Or.inr (Or.inr (Or.inr (Or.inr (Or.inl rfl)))))).trans (h.2.2.2 v hv).1, (hf _ _ (Or.inr (Or.inr (Or.inr (Or.inr (Or.inr (Or.inr rfl))))))).trans (h.2.2.2 v hv).2.1, fun k hk => (hf _ _ (Or.inr (Or.inr (Or.inr (Or.inr (Or.inr (Or.inl rfl))))))).trans ((h.2.2.2 v hv).2.2 k hk)⟩⟩
/-- the reference's store -/
def zML (g : Nat → Int) (m : Nat) (s : StS) (z cr : Nat) (I : ZI) : Prop := I 268 5 = z ∧ I 268 2 = cr ∧ (∀ j : Nat, j < 400 → I 270 j = g j) ∧ (cr ≤ 1 ∧ s = (stN g m).2 ∧ stLg g m z) ∧ (cr = 0 → (stN g m).1 = z)
theorem zML_fr {g : Nat → Int} {m : Nat} {s : StS} {z cr : Nat} {I I' : ZI} (h : zML g m s z cr I) (hf : ∀ c j, (c = 268 ∧ (j = 2 ∨ j = 5)) ∨ c = 270 → I' c j = I c j) : zML g m s z cr I' :=
  ⟨(hf 268 5 (by omega)).trans h.1, (hf 268 2 (by omega)).trans h.2.1, fun j hj => (hf 270 j (by omega)).trans (h.2.2.1 j hj), h.2.2.2⟩
theorem zML_add {g g' : Nat → Int} {m : Nat} {s : StS} {z z2 : Nat} {I I' : ZI} (h : zML g m s z 0 I) (hx : ∀ j, j < z → g j = g' j) (hok : stOk g' z s) (hz2 : z2 = z + stSz g' z) (h1 : I' 268 5 = z2) (h2 : I' 268 2 = I 268 2) (h4 : ∀ j : Nat, j < 400 → I' 270 j = g' j) : zML g' (m + 1) (stAct g' z s) z2 0 I' := by
  obtain ⟨q1, q2, q4, ⟨q5, q7, q8⟩, q9⟩ := h
  have w := q9 rfl
  subst q7
  have e := stLg_add q8 w hx hok
  subst hz2
  exact ⟨h1, h2.trans q2, h4, ⟨q5, e.2.2.symm, e.1⟩, fun _ => e.2.1⟩
