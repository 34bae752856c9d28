/-! THE GRID of the reference: pads, costs, bars -/
theorem bNth_neg {v : Int} : ∀ (n o : Nat) {l : Int}, l < 0 → bNth v n o l = -1
  | 0, _, _, _ => rfl
  | n + 1, o, l, h => by
    show zite (bBit v o) (if l = 0 then (o : Int) else bNth v n (o + 1) (l - 1)) (bNth v n (o + 1) l) = -1
    by_cases e : bBit v o
    · rw [zite_t e, if_neg (by omega)]; exact bNth_neg n (o + 1) (by omega)
    · rw [zite_f e]; exact bNth_neg n (o + 1) h
theorem bNth_no {v : Int} : ∀ (n o : Nat) {l : Int}, (∀ b, o ≤ b → b < o + n → ¬ bBit v b) → bNth v n o l = -1
  | 0, _, _, _ => rfl
  | n + 1, o, l, h => by
    show zite (bBit v o) (if l = 0 then (o : Int) else bNth v n (o + 1) (l - 1)) (bNth v n (o + 1) l) = -1
    rw [zite_f (h o (Nat.le_refl o) (by omega))]
    exact bNth_no n (o + 1) (fun b h1 h2 => h b (by omega) (by omega))
theorem bNth_t {v l : Int} {n o : Nat} (h : bBit v o) : bNth v (n + 1) o l = if l = 0 then (o : Int) else bNth v n (o + 1) (l - 1) := zite_t h
theorem bNth_f {v l : Int} {n o : Nat} (h : ¬ bBit v o) : bNth v (n + 1) o l = bNth v n (o + 1) l := zite_f h
/-- blockers are of nets that are there -/
def gB5 (s : BdS) : Prop := ∀ n : Nat, n < bnn s → ∀ o : Nat, bnn s ≤ o → o < 12 → ¬ bBit (bN s n 5) o
/-- a net's cost, as it is told -/
def gCo (s : BdS) (n : Int) : Int := if 0 ≤ n ∧ n < bnn s ∧ bN s n.toNat 2 = 1 then bN s n.toNat 3 else -1
theorem zBB_bar {k : Nat} {q : Int} {s : BdS} {d : Nat} {I L I' L' : ZI} (h : zBB k q s I L) (h5 : ∀ c : Nat, I' (k + 5) c = if c = d then 1 else I (k + 5) c)
    (hf : ∀ c j : Nat, (k ≤ c ∧ c ≤ k + 15) ∧ ¬ c = k + 5 ∧ ¬ (c = k ∧ j = 0) → I' c j = I c j) (hl : ∀ c j : Nat, k ≤ c ∧ c ≤ k + 13 → L' c j = L c j) : zBB k q (bBar s d) I' L' := by
  obtain ⟨⟨q1, q2, q3, q4, q5⟩, h2, h3', h4, h5', h6⟩ := h
  refine ⟨⟨(hf k 1 (by omega)).trans q1, (hf k 2 (by omega)).trans q2, (hf k 3 (by omega)).trans q3, (hl k 4 (by omega)).trans q4, (hf k 5 (by omega)).trans q5⟩,
    fun c hc => ⟨(hf (k + 3) c (by omega)).trans (h2 c hc).1, (hf (k + 4) c (by omega)).trans (h2 c hc).2.1, ?_, (hl (k + 6) c (by omega)).trans (h2 c hc).2.2.2⟩,
    fun l hl' => ⟨(hf (k + 7) l (by omega)).trans (h3' l hl').1, (hf (k + 8) l (by omega)).trans (h3' l hl').2.1, (hf (k + 9) l (by omega)).trans (h3' l hl').2.2⟩,
    fun n hn => ⟨(hf (k + 1) n (by omega)).trans (h4 n hn).1, fun q => ⟨(hf (k + 10) n (by omega)).trans ((h4 n hn).2 q).1, (hf (k + 11) n (by omega)).trans ((h4 n hn).2 q).2.1, (hf (k + 14) n (by omega)).trans ((h4 n hn).2 q).2.2.1, (hf (k + 15) n (by omega)).trans ((h4 n hn).2 q).2.2.2⟩⟩,
    fun n hn => ⟨(hf (k + 10) n (by omega)).trans (h5' n hn).1, (hf (k + 11) n (by omega)).trans (h5' n hn).2.1, (hf (k + 14) n (by omega)).trans (h5' n hn).2.2.1, fun q => ⟨(hf (k + 15) n (by omega)).trans ((h5' n hn).2.2.2.1 q).1, fun w => (hl (k + 13) n (by omega)).trans (((h5' n hn).2.2.2.1 q).2 w)⟩, fun j hj => (hf (k + 12) _ (by omega)).trans ((h5' n hn).2.2.2.2 j hj)⟩,
    fun p hp => (hf (k + 2) _ (by omega)).trans (h6 p hp)⟩
  rw [h5 c]
  show _ = ((upF (bba s) d 1 c : Nat) : Int)
  by_cases e : c = d
  · rw [if_pos e, e, upF_at]; rfl
  · rw [if_neg e, upF_ne e]; exact (h2 c hc).2.2.1
theorem zBB_cst {k : Nat} {q : Int} {s : BdS} {l a v n : Nat} {I L I' L' : ZI} (h : zBB k q s I L) (h7 : ∀ y : Nat, I' (k + 7) y = if y = l then (a : Int) else I (k + 7) y) (h8 : ∀ y : Nat, I' (k + 8) y = if y = l then (v : Int) else I (k + 8) y) (h9 : ∀ y : Nat, I' (k + 9) y = if y = l then (n : Int) else I (k + 9) y)
    (hf : ∀ c j : Nat, (k ≤ c ∧ c ≤ k + 15) ∧ ¬ c = k + 7 ∧ ¬ c = k + 8 ∧ ¬ c = k + 9 ∧ ¬ (c = k ∧ j = 0) → I' c j = I c j) (hl : ∀ c j : Nat, k ≤ c ∧ c ≤ k + 13 → L' c j = L c j) : zBB k q (bCst s l a v n) I' L' := by
  obtain ⟨⟨q1, q2, q3, q4, q5⟩, h2, h3', h4, h5', h6⟩ := h
  refine ⟨⟨(hf k 1 (by omega)).trans q1, (hf k 2 (by omega)).trans q2, (hf k 3 (by omega)).trans q3, (hl k 4 (by omega)).trans q4, (hf k 5 (by omega)).trans q5⟩,
    fun c hc => ⟨(hf (k + 3) c (by omega)).trans (h2 c hc).1, (hf (k + 4) c (by omega)).trans (h2 c hc).2.1, (hf (k + 5) c (by omega)).trans (h2 c hc).2.2.1, (hl (k + 6) c (by omega)).trans (h2 c hc).2.2.2⟩,
    fun y hy => ?_,
    fun n hn => ⟨(hf (k + 1) n (by omega)).trans (h4 n hn).1, fun q => ⟨(hf (k + 10) n (by omega)).trans ((h4 n hn).2 q).1, (hf (k + 11) n (by omega)).trans ((h4 n hn).2 q).2.1, (hf (k + 14) n (by omega)).trans ((h4 n hn).2 q).2.2.1, (hf (k + 15) n (by omega)).trans ((h4 n hn).2 q).2.2.2⟩⟩,
    fun n hn => ⟨(hf (k + 10) n (by omega)).trans (h5' n hn).1, (hf (k + 11) n (by omega)).trans (h5' n hn).2.1, (hf (k + 14) n (by omega)).trans (h5' n hn).2.2.1, fun q => ⟨(hf (k + 15) n (by omega)).trans ((h5' n hn).2.2.2.1 q).1, fun w => (hl (k + 13) n (by omega)).trans (((h5' n hn).2.2.2.1 q).2 w)⟩, fun j hj => (hf (k + 12) _ (by omega)).trans ((h5' n hn).2.2.2.2 j hj)⟩,
    fun p hp => (hf (k + 2) _ (by omega)).trans (h6 p hp)⟩
  rw [h7 y, h8 y, h9 y]
  show _ = ((if y = l then _ else _ : Nat) : Int) ∧ _ = ((if y = l then _ else _ : Nat) : Int) ∧ _ = ((if y = l then _ else _ : Nat) : Int)
  by_cases e : y = l
  · rw [if_pos e, if_pos e, if_pos e, if_pos e, if_pos e, if_pos e]; exact ⟨rfl, rfl, rfl⟩
  · rw [if_neg e, if_neg e, if_neg e, if_neg e, if_neg e, if_neg e]; exact h3' y hy
theorem zBB_net {k : Nat} {q : Int} {s : BdS} {sn : Int} {I L I' L' : ZI} (h : zBB k q s I L) (hn : bnn s < 12) (h5 : I' k 5 = bnn s + 1)
    (hf : ∀ c j : Nat, (k ≤ c ∧ c ≤ k + 15) ∧ ¬ (c = k ∧ j = 5) ∧ ¬ (c = k ∧ j = 0) → I' c j = I c j) (hl : ∀ c j : Nat, k ≤ c ∧ c ≤ k + 13 → L' c j = L c j) : zBB k q (s.1, bsd s, bho s, bba s, bhi s, bpa s, bnp s, bP s, bnn s + 1, upR (bN s) (bnn s) sn 0 0 0 0, upF (bwl s) (bnn s) 0, bwy s, bco s, bnd s) I' L' := by
  obtain ⟨⟨q1, q2, q3, q4, q5⟩, h2, h3', h4, h5', h6⟩ := h
  refine ⟨⟨(hf k 1 (by omega)).trans q1, (hf k 2 (by omega)).trans q2, (hf k 3 (by omega)).trans q3, (hl k 4 (by omega)).trans q4, h5⟩,
    fun c hc => ⟨(hf (k + 3) c (by omega)).trans (h2 c hc).1, (hf (k + 4) c (by omega)).trans (h2 c hc).2.1, (hf (k + 5) c (by omega)).trans (h2 c hc).2.2.1, (hl (k + 6) c (by omega)).trans (h2 c hc).2.2.2⟩,
    fun l hl' => ⟨(hf (k + 7) l (by omega)).trans (h3' l hl').1, (hf (k + 8) l (by omega)).trans (h3' l hl').2.1, (hf (k + 9) l (by omega)).trans (h3' l hl').2.2⟩,
    fun n hn => ⟨(hf (k + 1) n (by omega)).trans (h4 n hn).1, fun q => ?_⟩, fun n hn' => ?_, fun p hp => (hf (k + 2) _ (by omega)).trans (h6 p hp)⟩
  · have q' : bnn s + 1 ≤ n := q
    obtain ⟨a1, a2, a3, a4⟩ := (h4 n hn).2 (by omega)
    exact ⟨(hf (k + 10) n (by omega)).trans a1, (hf (k + 11) n (by omega)).trans a2, (hf (k + 14) n (by omega)).trans a3, (hf (k + 15) n (by omega)).trans a4⟩
  · have hn2 : n < bnn s + 1 := hn'
    show I' (k + 10) n = upR (bN s) (bnn s) sn 0 0 0 0 n 2 ∧ I' (k + 11) n = ((upF (bwl s) (bnn s) 0 n : Nat) : Int) ∧ I' (k + 14) n = upR (bN s) (bnn s) sn 0 0 0 0 n 4 ∧ ((n : Int) ≠ q → I' (k + 15) n = upR (bN s) (bnn s) sn 0 0 0 0 n 5 ∧ (upR (bN s) (bnn s) sn 0 0 0 0 n 2 = 1 → L' (k + 13) n = upR (bN s) (bnn s) sn 0 0 0 0 n 3)) ∧ ∀ j : Nat, j < upF (bwl s) (bnn s) 0 n → I' (k + 12) (1024 * n + j) = bwy s n j
    by_cases e : n = bnn s
    · subst e
      obtain ⟨a1, a2, a3, a4⟩ := (h4 (bnn s) hn).2 (Nat.le_refl _)
      have er2 : upR (bN s) (bnn s) sn 0 0 0 0 (bnn s) 2 = 0 := if_pos rfl
      have er3 : upR (bN s) (bnn s) sn 0 0 0 0 (bnn s) 3 = 0 := if_pos rfl
      have er4 : upR (bN s) (bnn s) sn 0 0 0 0 (bnn s) 4 = 0 := if_pos rfl
      have er5 : upR (bN s) (bnn s) sn 0 0 0 0 (bnn s) 5 = 0 := if_pos rfl
      rw [er2, er3, er4, er5, upF_at]
      exact ⟨(hf _ _ (by omega)).trans a1, (hf _ _ (by omega)).trans a2, (hf _ _ (by omega)).trans a3, fun _ => ⟨(hf _ _ (by omega)).trans a4, fun w => absurd w (by decide)⟩, fun j hj => absurd hj (Nat.not_lt_zero j)⟩
    · obtain ⟨a1, a2, a3, a5, a6⟩ := h5' n (by omega)
      rw [upR_ne e, upR_ne e, upR_ne e, upR_ne e, upF_ne e]
      exact ⟨(hf (k + 10) n (by omega)).trans a1, (hf (k + 11) n (by omega)).trans a2, (hf (k + 14) n (by omega)).trans a3, fun q => ⟨(hf (k + 15) n (by omega)).trans (a5 q).1, fun w => (hl (k + 13) n (by omega)).trans ((a5 q).2 w)⟩, fun j hj => (hf (k + 12) _ (by omega)).trans (a6 j hj)⟩
theorem zBB_pad {k : Nat} {q : Int} {s : BdS} {n d : Nat} {t o : Int} {I L I' L' : ZI} (h : zBB k q (bLet s n) I L) (hp : gPd s) (hn : n < bnn s) (hn12 : bnn s ≤ 12) (hc5 : bcn (bP s) n (bnp s) < 5)
    (h3 : ∀ c : Nat, I' (k + 3) c = if c = d then (n : Int) else I (k + 3) c) (h4 : ∀ c : Nat, I' (k + 4) c = if c = d then 1 else I (k + 4) c) (h1 : ∀ m : Nat, I' (k + 1) m = if m = n then (bcn (bP s) n (bnp s) : Int) + 1 else I (k + 1) m)
    (h2 : ∀ j : Nat, I' (k + 2) j = if j = 5 * n + bcn (bP s) n (bnp s) then (d : Int) else I (k + 2) j)
    (hf : ∀ c j : Nat, (k ≤ c ∧ c ≤ k + 15) ∧ ¬ c = k + 1 ∧ ¬ c = k + 2 ∧ ¬ c = k + 3 ∧ ¬ c = k + 4 → I' c j = I c j) (hl : ∀ c j : Nat, k ≤ c ∧ c ≤ k + 13 → L' c j = L c j) : zBB k q (bPad s n d t o) I' L' := by
  obtain ⟨⟨q1, q2, q3, q4, q5⟩, h2', h3', h4', h5', h6⟩ := h
  have eb : ∀ m : Int, bcn (upR (bP s) (bnp s) t o d n 0) m (bnp s + 1) = bcn (bP s) m (bnp s) + (if (n : Int) = m then 1 else 0) := fun m => by
    show bcn (upR (bP s) (bnp s) t o d n 0) m (bnp s) + (if upR (bP s) (bnp s) t o d n 0 (bnp s) 3 = m then 1 else 0) = _
    rw [bcn_cg (Q := bP s) (fun p hp => upR_ne (by omega))]
    have e3 : upR (bP s) (bnp s) t o d n 0 (bnp s) 3 = n := if_pos rfl
    rw [e3]
  refine ⟨⟨(hf k 1 (by omega)).trans q1, (hf k 2 (by omega)).trans q2, (hf k 3 (by omega)).trans q3, (hl k 4 (by omega)).trans q4, (hf k 5 (by omega)).trans q5⟩,
    fun c hc => ⟨?_, ?_, (hf (k + 5) c (by omega)).trans (h2' c hc).2.2.1, (hl (k + 6) c (by omega)).trans (h2' c hc).2.2.2⟩,
    fun l hl' => ⟨(hf (k + 7) l (by omega)).trans (h3' l hl').1, (hf (k + 8) l (by omega)).trans (h3' l hl').2.1, (hf (k + 9) l (by omega)).trans (h3' l hl').2.2⟩,
    fun m hm => ⟨?_, fun w => ?_⟩, fun m hm => ?_, fun p hp' => ?_⟩
  · rw [h3 c]
    show _ = if c = d then (n : Int) else bho (bLet s n) c
    by_cases e : c = d
    · rw [if_pos e, if_pos e]
    · rw [if_neg e, if_neg e]; exact (h2' c hc).1
  · rw [h4 c]
    show _ = if upF (bpa s) d (bnp s) c = -1 then (0 : Int) else 1
    by_cases e : c = d
    · rw [if_pos e, e, upF_at, if_neg (by omega)]
    · rw [if_neg e, upF_ne e]; exact (h2' c hc).2.1
  · rw [h1 m]
    show _ = ((bcn (upR (bP s) (bnp s) t o d n 0) m (bnp s + 1) : Nat) : Int)
    rw [eb m]
    by_cases e : m = n
    · subst e
      rw [if_pos rfl, if_pos rfl]; rfl
    · rw [if_neg e, if_neg (by omega)]; exact (h4' m hm).1
  · have w' : bnn s ≤ m := w
    obtain ⟨a1, a2, a3, a4⟩ := (h4' m hm).2 w'
    exact ⟨(hf _ _ (by omega)).trans a1, (hf _ _ (by omega)).trans a2, (hf _ _ (by omega)).trans a3, (hf _ _ (by omega)).trans a4⟩
  · obtain ⟨a1, a2, a3, a5, a6⟩ := h5' m hm
    have e1 : ∀ y, y ≠ 1 → up2z (up2z (bN s) n 2 0) n 1 (bN s n 1 + 1) m y = up2z (bN s) n 2 0 m y := fun y hy => up2z_ne (by omega)
    show I' (k + 10) m = up2z (up2z (bN s) n 2 0) n 1 (bN s n 1 + 1) m 2 ∧ I' (k + 11) m = ((upF (bwl s) n 0 m : Nat) : Int) ∧ I' (k + 14) m = up2z (up2z (bN s) n 2 0) n 1 (bN s n 1 + 1) m 4 ∧ ((m : Int) ≠ q → I' (k + 15) m = up2z (up2z (bN s) n 2 0) n 1 (bN s n 1 + 1) m 5 ∧ (up2z (up2z (bN s) n 2 0) n 1 (bN s n 1 + 1) m 2 = 1 → L' (k + 13) m = up2z (up2z (bN s) n 2 0) n 1 (bN s n 1 + 1) m 3)) ∧ ∀ j : Nat, j < upF (bwl s) n 0 m → I' (k + 12) (1024 * m + j) = bwy s m j
    rw [e1 2 (by decide), e1 4 (by decide), e1 5 (by decide), e1 3 (by decide)]
    exact ⟨(hf _ _ (by omega)).trans a1, (hf _ _ (by omega)).trans a2, (hf _ _ (by omega)).trans a3, fun w => ⟨(hf _ _ (by omega)).trans (a5 w).1, fun w2 => (hl _ _ (by omega)).trans ((a5 w).2 w2)⟩, fun j hj => (hf _ _ (by omega)).trans (a6 j hj)⟩
  · have hp2 : p < bnp s + 1 := hp'
    show I' (k + 2) (5 * (upR (bP s) (bnp s) t o d n 0 p 3).toNat + bcn (upR (bP s) (bnp s) t o d n 0) (upR (bP s) (bnp s) t o d n 0 p 3) p) = upR (bP s) (bnp s) t o d n 0 p 2
    rw [bcn_cg (Q := bP s) (fun p' hp' => upR_ne (by omega)), h2]
    by_cases e : p = bnp s
    · subst e
      have e3 : upR (bP s) (bnp s) t o d n 0 (bnp s) 3 = n := if_pos rfl
      have e2 : upR (bP s) (bnp s) t o d n 0 (bnp s) 2 = d := if_pos rfl
      rw [e3, e2, if_pos (show 5 * ((n : Int)).toNat + bcn (bP s) (n : Int) (bnp s) = 5 * n + bcn (bP s) (n : Int) (bnp s) from rfl)]
    · rw [upR_ne e, upR_ne e]
      have w := (hp.2.1 p (by omega)).2.1
      have w2 := bcn_lt (P := bP s) (n := bP s p 3) (p := p) (q := bnp s) (by omega) rfl
      have w3 := hp.2.2 (bP s p 3).toNat (by omega)
      rw [show (((bP s p 3).toNat : Nat) : Int) = bP s p 3 by omega] at w3
      rw [if_neg (fun q => by
        have e9 : bP s p 3 = n := by omega
        rw [e9] at w2 q
        omega)]
      exact h6 p (show p < bnp s by omega)
theorem gFree {s : BdS} {n d : Nat} (hg : bGd s) (hn : n < bnn s) (hd : d < bK s) : bFree s n d ↔ (bba s d = 0 ∧ ¬ (bpa s d ≠ -1 ∧ bho s d = n) ∧ (bho s d = -1 ∨ bho s d = n) ∧ bcn (bP s) n (bnp s) ≠ 5) := by
  have h1 := hg.2.2.2.2.1 n hn
  have hK : bK s ≤ 1024 := hg.1.2.2.2
  obtain ⟨a1, a2, a3, a4, a5, a6, a7, a8⟩ := hg.2.2.1 d (by omega)
  unfold bFree
  constructor
  · rintro ⟨b1, b2, b3, b4⟩
    exact ⟨b1, fun q => q.1 b2, b3, by omega⟩
  · rintro ⟨b1, b2, b3, b4⟩
    refine ⟨b1, Classical.byContradiction (fun q => ?_), b3, by omega⟩
    have w := (hg.2.2.2.1 (bpa s d).toNat (by omega)).2.2.2.2.2
    have w4 := (hg.2.2.2.1 (bpa s d).toNat (by omega)).2.2.2.1
    rw [a7 q] at w
    have w2 : bho s d = bP s (bpa s d).toNat 3 := w
    rcases b3 with k | k
    · omega
    · exact b2 ⟨q, k⟩
theorem bOpn_mo {s : BdS} {a : Nat} : ∀ {b : Nat}, a ≤ b → bOpn s a ≤ bOpn s b
  | 0, h => by rw [show a = 0 by omega]; exact Nat.le_refl _
  | b + 1, h => by
    by_cases e : a = b + 1
    · rw [e]; exact Nat.le_refl _
    · exact Nat.le_trans (bOpn_mo (show a ≤ b by omega)) (Nat.le_add_right _ _)
