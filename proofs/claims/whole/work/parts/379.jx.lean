/-! JOINING: a way taken into the tree -/
def bWx (s : BdS) (n : Nat) (f : Nat → Nat) : Nat → BdS
  | 0 => s
  | k + 1 => bWay (bWx s n f k) n (f k)
theorem bWx_p (s : BdS) (n : Nat) (f : Nat → Nat) : ∀ k, (bWx s n f k).1 = s.1 ∧ bsd (bWx s n f k) = bsd s ∧ bho (bWx s n f k) = bho s ∧ bba (bWx s n f k) = bba s ∧ bhi (bWx s n f k) = bhi s ∧ bpa (bWx s n f k) = bpa s ∧ bnp (bWx s n f k) = bnp s ∧ bP (bWx s n f k) = bP s ∧ bnn (bWx s n f k) = bnn s ∧ bN (bWx s n f k) = bN s ∧ bco (bWx s n f k) = bco s ∧ bnd (bWx s n f k) = bnd s
  | 0 => ⟨rfl, rfl, rfl, rfl, rfl, rfl, rfl, rfl, rfl, rfl, rfl, rfl⟩
  | k + 1 => bWx_p s n f k
theorem bWx_w (s : BdS) (n : Nat) (f : Nat → Nat) : ∀ k, bwl (bWx s n f k) n = bwl s n + k ∧ (∀ q, q < bwl s n → bwy (bWx s n f k) n q = bwy s n q) ∧ (∀ j, j < k → bwy (bWx s n f k) n (bwl s n + j) = f j) ∧ ∀ m, m ≠ n → bwl (bWx s n f k) m = bwl s m ∧ ∀ q, bwy (bWx s n f k) m q = bwy s m q
  | 0 => ⟨rfl, fun _ _ => rfl, fun j hj => absurd hj (Nat.not_lt_zero j), fun _ _ => ⟨rfl, fun _ => rfl⟩⟩
  | k + 1 => by
    obtain ⟨w1, w2, w3, w4⟩ := bWx_w s n f k
    have e1 : ∀ m, bwl (bWx s n f (k + 1)) m = upF (bwl (bWx s n f k)) n (bwl (bWx s n f k) n + 1) m := fun m => rfl
    have e2 : ∀ m q, bwy (bWx s n f (k + 1)) m q = up2 (bwy (bWx s n f k)) n (bwl (bWx s n f k) n) (f k) m q := fun m q => rfl
    refine ⟨?_, fun q hq => ?_, fun j hj => ?_, fun m hm => ⟨?_, fun q => ?_⟩⟩
    · rw [e1]
      unfold upF
      rw [if_pos rfl, w1]
      omega
    · rw [e2, w1, ← w2 q hq]
      unfold up2
      rw [if_neg (by omega)]
    · rw [e2, w1]
      unfold up2
      by_cases e : j = k
      · rw [if_pos (by omega), e]
      · rw [if_neg (by omega)]
        exact w3 j (by omega)
    · rw [e1]
      unfold upF
      rw [if_neg hm]
      exact (w4 m hm).1
    · rw [e2]
      unfold up2
      rw [if_neg (by omega)]
      exact (w4 m hm).2 q
theorem bWx_ok {s : BdS} {n m : Nat} {f : Nat → Nat} {k : Nat} (h : bWok s m) (hm : m ≠ n) : bWok (bWx s n f k) m := by
  have w := (bWx_w s n f k).2.2.2 m hm
  have p := bWx_p s n f k
  obtain ⟨h1, h2, h3⟩ := h
  refine ⟨by rw [w.1]; exact h1, fun j hj => ?_, fun c hc h4 h5 => ?_⟩
  · rw [w.1] at hj
    rw [w.2 j, p.2.2.1]
    exact h2 j hj
  · rw [p.2.2.1] at h4
    rw [p.2.2.2.2.2.1] at h5
    obtain ⟨j, j1, j2⟩ := h3 c hc h4 h5
    exact Exists.intro j ⟨by rw [w.1]; exact j1, by rw [w.2 j]; exact j2⟩
/-- the tree and the first k cells of a way to it -/
def bTp (s : BdS) (n : Nat) (f : Nat → Nat) (k : Nat) (d : Nat) : Prop := bTr s n d ∨ zex (fun j => j < k ∧ f j = d)
theorem bTp_0 (s : BdS) (n : Nat) (f : Nat → Nat) : bTp s n f 0 = bTr s n := funext (fun d => propext ⟨fun q => by
  rcases q with q | q
  · exact q
  · obtain ⟨j, j1, j2⟩ := q
    exact absurd j1 (Nat.not_lt_zero j), Or.inl⟩)
theorem bTp_s (s : BdS) (n : Nat) (f : Nat → Nat) (k : Nat) : bTp s n f (k + 1) = fun d => bTp s n f k d ∨ d = f k := funext (fun d => propext ⟨fun q => by
  rcases q with q | q
  · exact Or.inl (Or.inl q)
  · obtain ⟨j, j1, j2⟩ := q
    by_cases e : j = k
    · rw [e] at j2; exact Or.inr j2.symm
    · exact Or.inl (Or.inr (Exists.intro j ⟨by omega, j2⟩)), fun q => by
  rcases q with (q | q) | q
  · exact Or.inl q
  · obtain ⟨j, j1, j2⟩ := q
    exact Or.inr (Exists.intro j ⟨by omega, j2⟩)
  · exact Or.inr (Exists.intro k ⟨by omega, q.symm⟩)⟩)
theorem bTp_tr (s : BdS) (n : Nat) (f : Nat → Nat) (k : Nat) : bTr (bWx s n f k) n = bTp s n f k := by
  obtain ⟨w1, w2, w3, w4⟩ := bWx_w s n f k
  refine funext (fun d => propext ⟨fun q => ?_, fun q => ?_⟩)
  · obtain ⟨j, j1, j2⟩ := q
    rw [w1] at j1
    rcases Nat.lt_or_ge j (bwl s n) with e | e
    · exact Or.inl (Exists.intro j ⟨e, by rw [← w2 j e]; exact j2⟩)
    · refine Or.inr (Exists.intro (j - bwl s n) ⟨by omega, ?_⟩)
      rw [← w3 _ (by omega), show bwl s n + (j - bwl s n) = j by omega]
      exact j2
  · rcases q with q | q
    · obtain ⟨j, j1, j2⟩ := q
      exact Exists.intro j ⟨by rw [w1]; omega, by rw [w2 j j1]; exact j2⟩
    · obtain ⟨j, j1, j2⟩ := q
      exact Exists.intro (bwl s n + j) ⟨by rw [w1]; omega, by rw [w3 j j1]; exact j2⟩
theorem bPl_ct {s : BdS} {n : Nat} {r : Int} {c : Nat} (hb : bK s ≤ 1024) (h0 : 0 ≤ bDn s n r c) : ∀ k, k ≤ bPl s n r c → zct (bTp s n (bPth s n r c) k) (bK s) = zct (bTr s n) (bK s) + k
  | 0, _ => by rw [bTp_0]; rfl
  | k + 1, h => by
    have w := bPl_ct hb h0 k (by omega)
    have q := bPl_sp hb h0
    have p := bPth_sp hb h0 k (fun j hj => q.2 j (by omega))
    rw [bTp_s, zct_eq (fun e => ?_) p.1, w]
    · omega
    · rcases e with e | e
      · exact q.2 k (by omega) e
      · obtain ⟨j, j1, j2⟩ := e
        exact bPth_ne hb h0 j1 (by omega) j2
theorem bPl_le {s : BdS} {n : Nat} {r : Int} {c : Nat} (hb : bK s ≤ 1024) (h0 : 0 ≤ bDn s n r c) : zct (bTr s n) (bK s) + bPl s n r c ≤ bK s ∧ 1 ≤ zct (bTr s n) (bK s) := by
  have w := bPl_ct hb h0 _ (Nat.le_refl _)
  have w2 := zct_le (bTp s n (bPth s n r c) (bPl s n r c)) (bK s)
  have q := bPl_sp hb h0
  have p := bPth_sp hb h0 _ q.2
  exact ⟨by omega, zct_one q.1 p.1⟩
/-- a pad joined -/
noncomputable def bJ1 (s : BdS) (n : Nat) (f : Nat → Nat) (k : Nat) : BdS := bRp (bs_hi (bWx s n f k) (bHx (bWx s n f k) n f k)) (bRm (bWx s n f k) n f k) 12
noncomputable def bJ2 (s : BdS) (n : Nat) (f : Nat → Nat) (k m : Nat) : BdS := bs_ho (bJ1 s n f k) (fun c => zite (zex (fun j => j < m ∧ f j = c)) (n : Int) (bho (bJ1 s n f k) c))
noncomputable def bJn (s : BdS) (n : Nat) (r : Int) (c : Nat) : BdS := bJ2 s n (bPth s n r c) (bPl s n r c) (bPl s n r c)
theorem bRp_wl (s : BdS) (v : Int) {m : Nat} (hm : ¬ bBit v m) : ∀ k : Nat, bwl (bRp s v k) m = bwl s m
  | 0 => rfl
  | k + 1 => by
    have w := bRp_wl s v hm k
    have e0 : bRp s v (k + 1) = zite (bBit v k) (bRo (bRp s v k) k) (bRp s v k) := rfl
    rw [e0]
    by_cases e : bBit v k
    · rw [zite_t e, ← w]
      show upF (bwl (bRp s v k)) k 0 m = _
      unfold upF
      rw [if_neg (fun q => hm (by rw [q]; exact e))]
    · rw [zite_f e]; exact w
/-- what a joined board has -/
theorem bJ1_p {s : BdS} {n : Nat} {f : Nat → Nat} {k : Nat} (hnn : bnn s ≤ 12) (hn : n < bnn s) (hh : ∀ c, c < 1024 → -1 ≤ bho s c ∧ bho s c < bnn s) (hf : ∀ j, j < k → f j < 1024) :
    (bJ1 s n f k).1 = s.1 ∧ bnn (bJ1 s n f k) = bnn s ∧ bco (bJ1 s n f k) = bco s ∧ bnp (bJ1 s n f k) = bnp s ∧ bP (bJ1 s n f k) = bP s ∧ bpa (bJ1 s n f k) = bpa s ∧ bwl (bJ1 s n f k) n = bwl s n + k ∧ (∀ q, q < bwl s n → bwy (bJ1 s n f k) n q = bwy s n q) ∧ (∀ j, j < k → bwy (bJ1 s n f k) n (bwl s n + j) = f j) ∧ bTr (bJ1 s n f k) n = bTp s n f k := by
  have p := bRp_p (bs_hi (bWx s n f k) (bHx (bWx s n f k) n f k)) (bRm (bWx s n f k) n f k) 12
  have q := bWx_p s n f k
  obtain ⟨w1, w2, w3, w4⟩ := bWx_w s n f k
  have hbit : ¬ bBit (bRm (bWx s n f k) n f k) n := fun h => by
    have hm := (bRm_b (s := bWx s n f k) (n := n) (f := f) hnn (fun c hc => by rw [q.2.2.1]; exact hh c hc) k hf).2 n (by omega) h
    obtain ⟨j, j1, j2, j3⟩ := hm
    exact j2.2 j3
  have e1 : bwl (bJ1 s n f k) n = bwl s n + k := (bRp_wl _ _ hbit 12).trans w1
  have e2 : bwy (bJ1 s n f k) = bwy (bWx s n f k) := p.2.2.2.2.2.2.2.2.1
  refine ⟨p.1.trans q.1, p.2.2.2.2.2.2.2.1.trans q.2.2.2.2.2.2.2.2.1, p.2.2.2.2.2.2.2.2.2.1.trans q.2.2.2.2.2.2.2.2.2.2.1, p.2.2.2.2.2.1.trans q.2.2.2.2.2.2.1, p.2.2.2.2.2.2.1.trans q.2.2.2.2.2.2.2.1, p.2.2.2.2.1.trans q.2.2.2.2.2.1, e1, fun a ha => by rw [e2]; exact w2 a ha, fun j hj => by rw [e2]; exact w3 j hj, ?_⟩
  rw [← bTp_tr]
  unfold bTr
  rw [e1, e2, w1]
theorem bGz_x {s1 s : BdS} {A B C E F G : Prop} {X Y : Prop} (h : bGz s) (p : s1.1 = s.1 ∧ A ∧ B ∧ C ∧ E ∧ F ∧ bnp s1 = bnp s ∧ G ∧ bnn s1 = bnn s ∧ X ∧ bco s1 = bco s ∧ Y) : bGz s1 := by
  obtain ⟨h1, h2, h3⟩ := h
  obtain ⟨p1, -, -, -, -, -, p2, -, p3, -, p4, -⟩ := p
  refine ⟨?_, ?_, ?_⟩
  · show (1 ≤ s1.1.1 ∧ s1.1.1 ≤ 16) ∧ (1 ≤ s1.1.2.1 ∧ s1.1.2.1 ≤ 16) ∧ (1 ≤ s1.1.2.2 ∧ s1.1.2.2 ≤ 4) ∧ s1.1.1 * s1.1.2.1 * s1.1.2.2 ≤ 1024
    rw [p1]
    exact h1
  · rw [p2, p3]
    exact h2
  · rw [p4]
    exact h3
