/-! gs: SCRIPTS: both readers side by side: a statement -/
section
variable {N : Nat} {c : Nat → Int} {r p t k n : Nat} {o : List (Int × Nat)} {R : Nat → OrT} {u cl fn : Nat → Int} {Bk : Int → Int → StR → StR} {top : Bool}
theorem rd_cl {q : Nat} {kd : Int} {of : Nat} (hc : c q = (if kd = 4 then 93 else 125)) : rdS c N (1, q, t, k, n, (kd, of) :: o, R, u) = rdCl c kd of q t k n o R u := (if_pos rfl).trans (rdX_c (y := (kd, of)) (by rw [hc]; by_cases h : kd = 4; (rw [if_pos h]; decide); (rw [if_neg h]; decide)) hc)
/-- a block's reader (of level r) does as the reference does -/
def lkK (N : Nat) (c : Nat → Int) (r : Nat) (o : List (Int × Nat)) (Bk : Int → Int → StR → StR) : Prop := (∀ op en x, ¬ x.1 = 1 → Bk op en x = x) ∧ ∀ (p n t k : Nat) (cl fn : Nat → Int) (kd op en : Int) (of : Nat) (R : Nat → OrT) (u : Nat → Int), p ≤ N → n ≤ 100 → en = (if kd = 4 then 93 else 125) → op ≠ -1 → lkB N c r p t kd of o (1, p, n, cl, fn) R u en (Bk op en (1, p, n, cl, fn)) (rdOp c kd op of p t k n o R u)
/-- what a statement leaves -/
def lkS (N : Nat) (c : Nat → Int) (r p t : Nat) (top : Bool) (cl fn : Nat → Int) (R : Nat → OrT) (u : Nat → Int) (y : StR) (t' : Nat) (R' : Nat → OrT) (u' : Nat → Int) : Prop := (p < y.2.1 ∧ t < t') ∧ (top = false → y.2.2.2.2 = fn ∧ u' = u) ∧ (fnP N c p t cl fn R u → fnP N c y.2.1 t' y.2.2.2.1 y.2.2.2.2 R' u') ∧ ∀ (cl' : Nat → Int) (M : WkM), agN cl' y.2.2.2.1 p y.2.1 → agN M.1 R' t t' → ∀ to j, y.2.1 ≤ to → t' ≤ j → wfG N c cl' M r y.2.1 t' to j → wfSt N c cl' M (wfG N c cl' M) r p t to j
theorem lk_si (hc : eTx N c) (hp : p < N) (hk : c p ≠ 63 ∧ c p ≠ 42 ∧ c p ≠ 126 ∧ c p ≠ 91 ∧ c p ≠ 58) : lkR N c p t o cl R (srE (1, p, n, cl, fn) (stS c p)) (rdSi c p t k n o R u) (lkS N c r p t top cl fn R u (srE (1, p, n, cl, fn) (stS c p))) := by
  have w := stS_pl hc (Nat.le_of_lt hp)
  unfold exOk at w
  by_cases h1 : (stS c p).1 = 1
  · have b : p < (stS c p).2.1 ∧ (stS c p).2.1 ≤ N := by omega
    refine Or.inr ⟨h1, ⟨Nat.le_of_lt b.1, b.2⟩, t + 1, k + sqN c p, upF R t (stO c p), u, ⟨0, if_pos h1⟩, Nat.le_succ t, agN_r, agN_u (Nat.le_refl t), ⟨b.1, Nat.lt_succ_self t⟩, fun _ => ⟨rfl, rfl⟩, fun h => fnP_m h (Nat.le_of_lt b.1) (Nat.le_succ t) agN_r (agN_u (Nat.le_refl t)), fun cl' M a1 a2 to j b1 b2 hG => Or.inl ⟨hk, h1, ?_, b2, b.1, hG⟩⟩
    rw [a2 t (Nat.le_refl t) (Nat.lt_succ_self t)]
    exact upF_at
  · exact Or.inl ⟨by show (stS c p).1 = 0; omega, (0, (stS c p).2.1, t, k, n, o, R, u), ⟨0, if_neg h1⟩, rfl, rfl⟩
theorem upF_i {α : Type} {f : Nat → α} {i j : Nat} {v : α} (h : j ≠ i) : upF f i v j = f j := if_neg h
theorem agN_at {α : Type} {f g : Nat → α} {a b i : Nat} (h : agN f g a b) (h1 : a ≤ i) (h2 : i < b) : f i = g i := h i h1 h2
/-- [ .. ] -/
theorem lk_ac (hB : lkK N c r o Bk) (hp : p < N) (hn : n ≤ 100) (hk : c p = 91) : lkR N c p t o cl R (Bk 91 93 (1, p, n, cl, fn)) (rdOp c 4 91 t p (t + 1) k n o (upF R t (7, (p : Int), 0, [], [], 0)) u) (lkS N c r p t top cl fn R u (Bk 91 93 (1, p, n, cl, fn))) := by
  rcases hB.2 p n (t + 1) k cl fn 4 91 93 t (upF R t (7, (p : Int), 0, [], [], 0)) u (Nat.le_of_lt hp) hn rfl (by decide) with ⟨a, z, b, d⟩ | ⟨a, r', q, t', k', R', e1, e2, ⟨e3, e3'⟩, e4, e5, e6, e7, e8, e9, e10, e11⟩
  · exact Or.inl ⟨a, z, b, d⟩
  · have z : rdS c N (1, q, t', k', _, (4, t) :: o, R', u) = _ := (rd_cl (N := N) (t := t') (k := k') (n := (Bk 91 93 (1, p, n, cl, fn)).2.2.1) (o := o) (R := R') (u := u) (kd := 4) (of := t) e4).trans rdCl_4
    have hR : agN (upF R' t' (8, (R' t).2.1, 0, [], [], 0)) R 0 t := agN_ut (agN_t e10 (agN_u (Nat.le_refl t)) (Nat.le_succ t)) (by omega)
    have hRt : R' t = (7, (p : Int), 0, [], [], 0) := (e10 t (Nat.zero_le t) (Nat.lt_succ_self t)).trans upF_at
    refine Or.inr ⟨a, ⟨by omega, by omega⟩, t' + 1, k', _, u, itR_t e5 (itR_1 (by rw [e2]; exact z)), by omega, e9, hR, ⟨by omega, by omega⟩, fun _ => ⟨e7, rfl⟩, fun h => by rw [e7]; exact fnP_m h (by omega) (by omega) e9 hR, fun cl' M a1 a2 to j b1 b2 hG => ?_⟩
    rw [e2] at a1 b1 hG
    refine Or.inr ⟨r', p, q, t', Or.inr (Or.inr (Or.inl hk)), e1, (a1 p (Nat.le_refl p) (by omega)).trans e8, ⟨Nat.le_refl p, e3, by omega⟩, e11 cl' M (agN_s a1 (by omega) (by omega)) (fun i i1 i2 => (a2 i (by omega) (by omega)).trans (upF_i (by omega))) (by have := (wfG_b hG).2.1; omega), by omega, Or.inr (Or.inr (Or.inr (Or.inl ⟨hk, rfl, ?_, ?_, by omega, hG⟩)))⟩
    · rw [a2 t (Nat.le_refl t) (by omega), upF_i (by omega), hRt]
    · rw [a2 t' (by omega) (by omega), upF_at]
/-- * .. -/
theorem lk_lp (hc : eTx N c) (hB : lkK N c r o Bk) (hp : p < N) (hn : n ≤ 100) (hk : c p = 42) : lkR N c p t o cl R (Bk 123 125 (srE (1, p, n, cl, fn) (exEx c 3 (p + 1)))) (rdBw c 6 3 p t k n o R u) (lkS N c r p t top cl fn R u (Bk 123 125 (srE (1, p, n, cl, fn) (exEx c 3 (p + 1))))) := by
  have w := exEx_ok hc (r := 3) (p := p + 1) hp
  unfold exOk at w
  by_cases h1 : (exEx c 3 (p + 1)).1 = 1
  · have b : p < (exEx c 3 (p + 1)).2.1 ∧ (exEx c 3 (p + 1)).2.1 ≤ N := by omega
    have e0 : srE (1, p, n, cl, fn) (exEx c 3 (p + 1)) = (1, (exEx c 3 (p + 1)).2.1, n, cl, fn) := by
      unfold srE
      rw [h1]
    have ex : rdBw c 6 3 p t k n o R u = rdOp c 3 123 t (exEx c 3 (p + 1)).2.1 (t + 1) (k + ((exEx c 3 (p + 1)).2.2.length + 1)) n o (upF R t (6, (p : Int), 0, [], (exEx c 3 (p + 1)).2.2, 0)) u := if_pos h1
    rw [e0, ex]
    rcases hB.2 (exEx c 3 (p + 1)).2.1 n (t + 1) (k + ((exEx c 3 (p + 1)).2.2.length + 1)) cl fn 3 123 125 t (upF R t (6, (p : Int), 0, [], (exEx c 3 (p + 1)).2.2, 0)) u b.2 hn rfl (by decide) with ⟨a, z, b, d⟩ | ⟨a, r', q, t', k', R', e1, e2, ⟨e3, e3'⟩, e4, e5, e6, e7, e8, e9, e10, e11⟩
    · exact Or.inl ⟨a, z, b, d⟩
    · have z : rdS c N (1, q, t', k', _, (3, t) :: o, R', u) = _ := (rd_cl (N := N) (t := t') (k := k') (n := (Bk 123 125 (1, (exEx c 3 (p + 1)).2.1, n, cl, fn)).2.2.1) (o := o) (R := R') (u := u) (kd := 3) (of := t) e4).trans rdCl_3
      have hR0 : agN (upF R' t' (17, (R' t).2.1, 0, [], [], (t : Int))) R 0 t := agN_ut (agN_t e10 (agN_u (Nat.le_refl t)) (Nat.le_succ t)) (by omega)
      have hR : agN (orG (upF R' t' (17, (R' t).2.1, 0, [], [], (t : Int))) t ((t' + 1 : Nat) : Int)) R 0 t := agN_ut hR0 (Nat.le_refl t)
      have hRt : R' t = (6, (p : Int), 0, [], (exEx c 3 (p + 1)).2.2, 0) := (e10 t (Nat.zero_le t) (Nat.lt_succ_self t)).trans upF_at
      have hcl : agN (Bk 123 125 (1, (exEx c 3 (p + 1)).2.1, n, cl, fn)).2.2.2.1 cl 0 p := agN_s e9 (Nat.le_refl 0) (Nat.le_of_lt b.1)
      refine Or.inr ⟨a, ⟨by omega, by omega⟩, t' + 1, k', _, u, itR_t e5 (itR_1 (by rw [e2]; exact z)), by omega, hcl, hR, ⟨by omega, by omega⟩, fun _ => ⟨e7, rfl⟩, fun h => by rw [e7]; exact fnP_m h (by omega) (by omega) hcl hR, fun cl' M a1 a2 to j b1 b2 hG => ?_⟩
      rw [e2] at a1 b1 hG
      have hM : ∀ i, t < i → i < t' + 1 → M.1 i = upF R' t' (17, (R' t).2.1, 0, [], [], (t : Int)) i := fun i i1 i2 => (a2 i (by omega) i2).trans (upF_i (by omega))
      refine Or.inr ⟨r', (exEx c 3 (p + 1)).2.1, q, t', Or.inr (Or.inl hk), e1, (a1 _ (by omega) (by omega)).trans e8, ⟨by omega, e3, by omega⟩, e11 cl' M (agN_s a1 (by omega) (by omega)) (fun i i1 i2 => (hM i (by omega) (by omega)).trans (upF_i (by omega))) (by have := (wfG_b hG).2.1; omega), by omega, Or.inr (Or.inr (Or.inl ⟨hk, ⟨h1, rfl⟩, ?_, ⟨?_, ?_⟩, by omega, hG⟩))⟩
      · rw [a2 t (Nat.le_refl t) (by omega)]
        unfold orG
        rw [upF_at, upF_i (by omega), hRt]
      · rw [hM t' (by omega) (by omega), upF_at]
      · rw [hM t' (by omega) (by omega), upF_at]
  · have e0 : ¬ (srE (1, p, n, cl, fn) (exEx c 3 (p + 1))).1 = 1 := h1
    rw [hB.1 _ _ _ e0]
    exact Or.inl ⟨by show (exEx c 3 (p + 1)).1 = 0; omega, (0, (exEx c 3 (p + 1)).2.1, t, k, n, o, R, u), ⟨0, if_neg h1⟩, rfl, rfl⟩
end
