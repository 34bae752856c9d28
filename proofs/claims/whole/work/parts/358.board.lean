/-! BOARDS: the grid, pads, nets, ways -/
theorem zmb {a b A B : Int} (h0 : 0 ≤ a) (h1 : a ≤ A) (h2 : 0 ≤ b) (h3 : b ≤ B) : 0 ≤ a * b ∧ a * b ≤ A * B := ⟨Int.mul_nonneg h0 h2, Int.mul_le_mul h1 h3 h2 (by omega)⟩
theorem nmb {a b A B : Nat} (h1 : a ≤ A) (h3 : b ≤ B) : a * b ≤ A * B := Nat.mul_le_mul h1 h3
/-- a cell's number -/
def cxN (W H l i j : Nat) : Nat := (l * H + j) * W + i
def cxI (W H D : Nat) (l i j : Int) : Int := if 0 ≤ l ∧ l < D ∧ 0 ≤ i ∧ i < W ∧ 0 ≤ j ∧ j < H then ((l.toNat * H + j.toNat) * W + i.toNat : Nat) else -1
theorem cx_lt {W H D l i j : Nat} (hl : l < D) (hi : i < W) (hj : j < H) : (l * H + j) * W + i < W * H * D := by
  have h1 : l * H + j + 1 ≤ D * H := by
    have h2 : (l + 1) * H ≤ D * H := Nat.mul_le_mul_right H hl
    rw [Nat.succ_mul] at h2
    omega
  have h3 : (l * H + j + 1) * W ≤ D * H * W := Nat.mul_le_mul_right W h1
  rw [Nat.succ_mul] at h3
  rw [show W * H * D = D * H * W by rw [Nat.mul_comm (W * H) D, Nat.mul_comm W H, Nat.mul_assoc]]
  omega
theorem cx_col {W H l i j : Nat} (hi : i < W) : ((l * H + j) * W + i) % W = i := by
  rw [Nat.add_comm, Nat.add_mul_mod_self_right, Nat.mod_eq_of_lt hi]
theorem cx_q {W H l i j : Nat} (hi : i < W) : ((l * H + j) * W + i) / W = l * H + j := by
  rw [Nat.add_comm, Nat.add_mul_div_right _ _ (by omega), Nat.div_eq_of_lt hi, Nat.zero_add]
theorem cx_row {W H l i j : Nat} (hi : i < W) (hj : j < H) : ((l * H + j) * W + i) / W % H = j := by
  rw [cx_q hi, Nat.add_comm, Nat.add_mul_mod_self_right, Nat.mod_eq_of_lt hj]
theorem cx_lay {W H l i j : Nat} (hi : i < W) (hj : j < H) : ((l * H + j) * W + i) / W / H = l := by
  rw [cx_q hi, Nat.add_comm, Nat.add_mul_div_right _ _ (by omega), Nat.div_eq_of_lt hj, Nat.zero_add]
theorem cx_of {W H D c : Nat} (h : c < W * H * D) : c / W / H < D ∧ c % W < W ∧ c / W % H < H ∧ (c / W / H * H + c / W % H) * W + c % W = c := by
  have hW : 0 < W := Nat.pos_of_ne_zero (fun e => by subst e; rw [Nat.zero_mul, Nat.zero_mul] at h; omega)
  have hH : 0 < H := Nat.pos_of_ne_zero (fun e => by subst e; rw [Nat.mul_zero, Nat.zero_mul] at h; omega)
  refine ⟨?_, Nat.mod_lt _ hW, Nat.mod_lt _ hH, ?_⟩
  · rw [Nat.div_div_eq_div_mul]
    exact Nat.div_lt_of_lt_mul h
  · have h1 := Nat.div_add_mod (c / W) H
    have h2 := Nat.div_add_mod c W
    rw [Nat.mul_comm (c / W / H) H, h1, Nat.mul_comm (c / W) W]
    exact h2
theorem cxI_b {W H D : Nat} {l i j : Int} (hb : W * H * D ≤ 1024) : cxI W H D l i j = -1 ∨ (0 ≤ cxI W H D l i j ∧ cxI W H D l i j < (W * H * D : Nat)) := by
  unfold cxI
  split
  · next h =>
    right
    have := cx_lt (W := W) (H := H) (D := D) (l := l.toNat) (i := i.toNat) (j := j.toNat) (by omega) (by omega) (by omega)
    omega
  · exact Or.inl rfl
/-- a cell's neighbour on a side -/
def nbI (W H D c s : Nat) : Int := if s = 0 then cxI W H D ((c / W / H : Nat) - 1) (c % W : Nat) (c / W % H : Nat) else if s = 1 then cxI W H D (c / W / H : Nat) (c % W : Nat) ((c / W % H : Nat) - 1) else if s = 2 then cxI W H D (c / W / H : Nat) ((c % W : Nat) - 1) (c / W % H : Nat) else if s = 3 then cxI W H D (c / W / H : Nat) ((c % W : Nat) + 1) (c / W % H : Nat) else if s = 4 then cxI W H D (c / W / H : Nat) (c % W : Nat) ((c / W % H : Nat) + 1) else cxI W H D ((c / W / H : Nat) + 1) (c % W : Nat) (c / W % H : Nat)
theorem nbI_b {W H D c s : Nat} (hb : W * H * D ≤ 1024) : nbI W H D c s = -1 ∨ (0 ≤ nbI W H D c s ∧ nbI W H D c s < (W * H * D : Nat)) := by
  unfold nbI
  split
  · exact cxI_b hb
  · split
    · exact cxI_b hb
    · split
      · exact cxI_b hb
      · split
        · exact cxI_b hb
        · split
          · exact cxI_b hb
          · exact cxI_b hb
/-- width, height, layers; the seed; who holds a cell, whether it is barred, its history, its pad; pads; nets; ways; costs; nets of copies -/
abbrev BdS : Type := (Nat × Nat × Nat) × Int × (Nat → Int) × (Nat → Nat) × (Nat → Nat) × (Nat → Int) × Nat × (Nat → Nat → Int) × Nat × (Nat → Nat → Int) × (Nat → Nat) × (Nat → Nat → Nat) × (Nat → Nat → Nat) × (Nat → Int)
abbrev bW (s : BdS) : Nat := s.1.1
abbrev bH (s : BdS) : Nat := s.1.2.1
abbrev bD (s : BdS) : Nat := s.1.2.2
abbrev bsd (s : BdS) : Int := s.2.1
abbrev bho (s : BdS) : Nat → Int := s.2.2.1
abbrev bba (s : BdS) : Nat → Nat := s.2.2.2.1
abbrev bhi (s : BdS) : Nat → Nat := s.2.2.2.2.1
abbrev bpa (s : BdS) : Nat → Int := s.2.2.2.2.2.1
abbrev bnp (s : BdS) : Nat := s.2.2.2.2.2.2.1
abbrev bP (s : BdS) : Nat → Nat → Int := s.2.2.2.2.2.2.2.1
abbrev bnn (s : BdS) : Nat := s.2.2.2.2.2.2.2.2.1
abbrev bN (s : BdS) : Nat → Nat → Int := s.2.2.2.2.2.2.2.2.2.1
abbrev bwl (s : BdS) : Nat → Nat := s.2.2.2.2.2.2.2.2.2.2.1
abbrev bwy (s : BdS) : Nat → Nat → Nat := s.2.2.2.2.2.2.2.2.2.2.2.1
abbrev bco (s : BdS) : Nat → Nat → Nat := s.2.2.2.2.2.2.2.2.2.2.2.2.1
abbrev bnd (s : BdS) : Nat → Int := s.2.2.2.2.2.2.2.2.2.2.2.2.2
abbrev bs_sd (s : BdS) (x : Int) : BdS := (s.1, x, bho s, bba s, bhi s, bpa s, bnp s, bP s, bnn s, bN s, bwl s, bwy s, bco s, bnd s)
abbrev bs_ho (s : BdS) (x : Nat → Int) : BdS := (s.1, bsd s, x, bba s, bhi s, bpa s, bnp s, bP s, bnn s, bN s, bwl s, bwy s, bco s, bnd s)
abbrev bs_ba (s : BdS) (x : Nat → Nat) : BdS := (s.1, bsd s, bho s, x, bhi s, bpa s, bnp s, bP s, bnn s, bN s, bwl s, bwy s, bco s, bnd s)
abbrev bs_hi (s : BdS) (x : Nat → Nat) : BdS := (s.1, bsd s, bho s, bba s, x, bpa s, bnp s, bP s, bnn s, bN s, bwl s, bwy s, bco s, bnd s)
abbrev bs_pa (s : BdS) (x : Nat → Int) : BdS := (s.1, bsd s, bho s, bba s, bhi s, x, bnp s, bP s, bnn s, bN s, bwl s, bwy s, bco s, bnd s)
abbrev bs_np (s : BdS) (x : Nat) : BdS := (s.1, bsd s, bho s, bba s, bhi s, bpa s, x, bP s, bnn s, bN s, bwl s, bwy s, bco s, bnd s)
abbrev bs_P (s : BdS) (x : Nat → Nat → Int) : BdS := (s.1, bsd s, bho s, bba s, bhi s, bpa s, bnp s, x, bnn s, bN s, bwl s, bwy s, bco s, bnd s)
abbrev bs_nn (s : BdS) (x : Nat) : BdS := (s.1, bsd s, bho s, bba s, bhi s, bpa s, bnp s, bP s, x, bN s, bwl s, bwy s, bco s, bnd s)
abbrev bs_N (s : BdS) (x : Nat → Nat → Int) : BdS := (s.1, bsd s, bho s, bba s, bhi s, bpa s, bnp s, bP s, bnn s, x, bwl s, bwy s, bco s, bnd s)
abbrev bs_wl (s : BdS) (x : Nat → Nat) : BdS := (s.1, bsd s, bho s, bba s, bhi s, bpa s, bnp s, bP s, bnn s, bN s, x, bwy s, bco s, bnd s)
abbrev bs_wy (s : BdS) (x : Nat → Nat → Nat) : BdS := (s.1, bsd s, bho s, bba s, bhi s, bpa s, bnp s, bP s, bnn s, bN s, bwl s, x, bco s, bnd s)
abbrev bs_co (s : BdS) (x : Nat → Nat → Nat) : BdS := (s.1, bsd s, bho s, bba s, bhi s, bpa s, bnp s, bP s, bnn s, bN s, bwl s, bwy s, x, bnd s)
abbrev bs_nd (s : BdS) (x : Nat → Int) : BdS := (s.1, bsd s, bho s, bba s, bhi s, bpa s, bnp s, bP s, bnn s, bN s, bwl s, bwy s, bco s, x)
/-- how many of the first p pads are of a net -/
def bcn (P : Nat → Nat → Int) (n : Int) : Nat → Nat
  | 0 => 0
  | p + 1 => bcn P n p + if P p 3 = n then 1 else 0
theorem bcn_le (P : Nat → Nat → Int) (n : Int) : ∀ p, bcn P n p ≤ p
  | 0 => Nat.le_refl 0
  | p + 1 => by
    have h := bcn_le P n p
    unfold bcn
    split <;> omega
theorem bcn_mono {P : Nat → Nat → Int} {n : Int} {a : Nat} : ∀ {b : Nat}, a ≤ b → bcn P n a ≤ bcn P n b
  | 0, h => by rw [show a = 0 by omega]; exact Nat.le_refl _
  | b + 1, h => by
    by_cases e : a = b + 1
    · rw [e]; exact Nat.le_refl _
    · exact Nat.le_trans (bcn_mono (show a ≤ b by omega)) (Nat.le_add_right _ _)
/-- what holds of each board -/
def bGd (s : BdS) : Prop := ((1 ≤ bW s ∧ bW s ≤ 16) ∧ (1 ≤ bH s ∧ bH s ≤ 16) ∧ (1 ≤ bD s ∧ bD s ≤ 4) ∧ bW s * bH s * bD s ≤ 1024) ∧ (bnp s ≤ 40 ∧ bnn s ≤ 12) ∧
  (∀ c, c < 1024 → bba s c ≤ 1 ∧ (bba s c = 1 → bho s c = -1) ∧ -1 ≤ bho s c ∧ bho s c < bnn s ∧ -1 ≤ bpa s c ∧ bpa s c < bnp s ∧ (bpa s c ≠ -1 → bP s (bpa s c).toNat 2 = c) ∧ (bW s * bH s * bD s ≤ c → bho s c = -1)) ∧
  (∀ p, p < bnp s → (0 ≤ bP s p 0 ∧ bP s p 0 < 60) ∧ (0 ≤ bP s p 1 ∧ bP s p 1 < 16) ∧ (0 ≤ bP s p 2 ∧ bP s p 2 < (bW s * bH s * bD s : Nat)) ∧ (0 ≤ bP s p 3 ∧ bP s p 3 < bnn s) ∧ bpa s (bP s p 2).toNat = p ∧ bho s (bP s p 2).toNat = bP s p 3) ∧
  (∀ n, n < bnn s → bN s n 1 = bcn (bP s) n (bnp s) ∧ bcn (bP s) n (bnp s) ≤ 5 ∧ (bN s n 2 = 0 ∨ bN s n 2 = 1) ∧ (0 ≤ bN s n 5 ∧ bN s n 5 < 4096) ∧ bwl s n ≤ 1024 ∧ (bN s n 2 = 0 → bwl s n = 0) ∧
    (∀ k, k < bwl s n → bwy s n k < bW s * bH s * bD s ∧ bho s (bwy s n k) = n) ∧ ∀ c, c < 1024 → bho s c = n → bpa s c = -1 → zex (fun k => k < bwl s n ∧ bwy s n k = c)) ∧
  (∀ k l, k < 3 → l < 4 → bco s k l ≤ 50) ∧ (∀ x, x < 960 → -1 ≤ bnd s x ∧ bnd s x < 960) ∧ ∀ a b, a < b → b < bnn s → bN s a 0 ≠ bN s b 0
/-- the board as the class holds it -/
def zBA (b : Nat) (s : BdS) (I L : ZI) : Prop := (I 82 0 = (b : Int) - 1 ∧ I 82 1 = bW s ∧ I 82 2 = bH s ∧ I 82 3 = bD s ∧ L 82 4 = bsd s) ∧ (∀ c x : Nat, c < bW s * bH s * bD s → x < 6 → I 83 (6 * c + x) = nbI (bW s) (bH s) (bD s) c x) ∧
  (∀ c : Nat, c < 1024 → I 84 c = bba s c ∧ I 85 c = bhi s c ∧ I 86 c = bho s c ∧ I 87 c = bpa s c) ∧ zRT 88 40 (bnp s) (bP s) I ∧ zRT 90 12 (bnn s) (bN s) I ∧
  (∀ n : Nat, n < 12 → I 93 n = bwl s n ∧ ∀ k : Nat, k < bwl s n → I 92 (1024 * n + k) = bwy s n k) ∧ (∀ l : Nat, l < 4 → I 94 l = bco s 0 l ∧ I 95 l = bco s 1 l ∧ I 96 l = bco s 2 l) ∧ ∀ x : Nat, x < 960 → I 97 x = bnd s x
theorem zBA_fr {b : Nat} {s : BdS} {I L I' L' : ZI} (h : zBA b s I L) (hf : ∀ c j, 82 ≤ c ∧ c ≤ 97 → I' c j = I c j) (hl : ∀ c j, c = 82 → L' c j = L c j) : zBA b s I' L' := by
  obtain ⟨⟨q1, q2, q3, q4, q5⟩, h2, h3, h4, h5, h6, h7, h8⟩ := h
  exact ⟨⟨(hf 82 0 (by omega)).trans q1, (hf 82 1 (by omega)).trans q2, (hf 82 2 (by omega)).trans q3, (hf 82 3 (by omega)).trans q4, (hl 82 4 rfl).trans q5⟩, fun c x a b => (hf 83 _ (by omega)).trans (h2 c x a b), fun c hc => ⟨(hf 84 c (by omega)).trans (h3 c hc).1, (hf 85 c (by omega)).trans (h3 c hc).2.1, (hf 86 c (by omega)).trans (h3 c hc).2.2.1, (hf 87 c (by omega)).trans (h3 c hc).2.2.2⟩,
    zRT_fr h4 (fun c j q => hf c j (by omega)), zRT_fr h5 (fun c j q => hf c j (by omega)), fun n hn => ⟨(hf 93 n (by omega)).trans (h6 n hn).1, fun k hk => (hf 92 _ (by omega)).trans ((h6 n hn).2 k hk)⟩, fun l hl => ⟨(hf 94 l (by omega)).trans (h7 l hl).1, (hf 95 l (by omega)).trans (h7 l hl).2.1, (hf 96 l (by omega)).trans (h7 l hl).2.2⟩, fun x hx => (hf 97 x (by omega)).trans (h8 x hx)⟩
/-- a net lets go of what it holds but its pads; a cell comes to its way -/
def bLet (s : BdS) (n : Nat) : BdS := bs_N (bs_wl (bs_ho s (fun c => if bho s c = n ∧ bpa s c = -1 then -1 else bho s c)) (upF (bwl s) n 0)) (up2z (bN s) n 2 0)
def bWay (s : BdS) (n c : Nat) : BdS := bs_wy (bs_wl s (upF (bwl s) n (bwl s n + 1))) (up2 (bwy s) n (bwl s n) c)
/-- what lies on a way is the net's, and all that the net holds -/
def bWok (s : BdS) (n : Nat) : Prop := bwl s n ≤ 1024 ∧ (∀ k, k < bwl s n → bwy s n k < 1024 ∧ bho s (bwy s n k) = n) ∧ ∀ c, c < 1024 → bho s c = n → bpa s c = -1 → zex (fun k => k < bwl s n ∧ bwy s n k = c)
theorem zBA_N {b : Nat} {s : BdS} {I I' L L' : ZI} {c : Nat} {f : Nat → Nat → Int} (h : zBA b s I L) (hN : zRT 90 12 c f I') (hf : ∀ c j, 82 ≤ c ∧ c ≤ 97 ∧ c ≠ 90 ∧ c ≠ 91 → I' c j = I c j) (hl : ∀ c j, c = 82 → L' c j = L c j) : zBA b (s.1, bsd s, bho s, bba s, bhi s, bpa s, bnp s, bP s, c, f, bwl s, bwy s, bco s, bnd s) I' L' := by
  obtain ⟨⟨q1, q2, q3, q4, q5⟩, h2, h3, h4, h5, h6, h7, h8⟩ := h
  exact ⟨⟨(hf 82 0 (by omega)).trans q1, (hf 82 1 (by omega)).trans q2, (hf 82 2 (by omega)).trans q3, (hf 82 3 (by omega)).trans q4, (hl 82 4 rfl).trans q5⟩, fun c x a b => (hf 83 _ (by omega)).trans (h2 c x a b), fun c hc => ⟨(hf 84 c (by omega)).trans (h3 c hc).1, (hf 85 c (by omega)).trans (h3 c hc).2.1, (hf 86 c (by omega)).trans (h3 c hc).2.2.1, (hf 87 c (by omega)).trans (h3 c hc).2.2.2⟩,
    zRT_fr h4 (fun c j q => hf c j (by omega)), hN, fun n hn => ⟨(hf 93 n (by omega)).trans (h6 n hn).1, fun k hk => (hf 92 _ (by omega)).trans ((h6 n hn).2 k hk)⟩, fun l hl => ⟨(hf 94 l (by omega)).trans (h7 l hl).1, (hf 95 l (by omega)).trans (h7 l hl).2.1, (hf 96 l (by omega)).trans (h7 l hl).2.2⟩, fun x hx => (hf 97 x (by omega)).trans (h8 x hx)⟩
theorem zBA_P {b : Nat} {s : BdS} {I I' L L' : ZI} {c : Nat} {f : Nat → Nat → Int} (h : zBA b s I L) (hN : zRT 88 40 c f I') (hf : ∀ c j, 82 ≤ c ∧ c ≤ 97 ∧ c ≠ 88 ∧ c ≠ 89 → I' c j = I c j) (hl : ∀ c j, c = 82 → L' c j = L c j) : zBA b (s.1, bsd s, bho s, bba s, bhi s, bpa s, c, f, bnn s, bN s, bwl s, bwy s, bco s, bnd s) I' L' := by
  obtain ⟨⟨q1, q2, q3, q4, q5⟩, h2, h3, h4, h5, h6, h7, h8⟩ := h
  exact ⟨⟨(hf 82 0 (by omega)).trans q1, (hf 82 1 (by omega)).trans q2, (hf 82 2 (by omega)).trans q3, (hf 82 3 (by omega)).trans q4, (hl 82 4 rfl).trans q5⟩, fun c x a b => (hf 83 _ (by omega)).trans (h2 c x a b), fun c hc => ⟨(hf 84 c (by omega)).trans (h3 c hc).1, (hf 85 c (by omega)).trans (h3 c hc).2.1, (hf 86 c (by omega)).trans (h3 c hc).2.2.1, (hf 87 c (by omega)).trans (h3 c hc).2.2.2⟩,
    hN, zRT_fr h5 (fun c j q => hf c j (by omega)), fun n hn => ⟨(hf 93 n (by omega)).trans (h6 n hn).1, fun k hk => (hf 92 _ (by omega)).trans ((h6 n hn).2 k hk)⟩, fun l hl => ⟨(hf 94 l (by omega)).trans (h7 l hl).1, (hf 95 l (by omega)).trans (h7 l hl).2.1, (hf 96 l (by omega)).trans (h7 l hl).2.2⟩, fun x hx => (hf 97 x (by omega)).trans (h8 x hx)⟩
/-- the n-th bit that is set, of twelve -/
def bBit (v : Int) (o : Nat) : Prop := zand (zshr v o) 1 ≠ 0
noncomputable def bNth (v : Int) : Nat → Nat → Int → Int
  | 0, _, _ => -1
  | n + 1, o, k => zite (bBit v o) (if k = 0 then (o : Int) else bNth v n (o + 1) (k - 1)) (bNth v n (o + 1) k)
/-- how many of the first k nets are open -/
def bOpn (s : BdS) : Nat → Nat
  | 0 => 0
  | k + 1 => bOpn s k + (if 0 < bN s k 1 ∧ bN s k 2 ≠ 1 then 1 else 0)
theorem bOpn_le (s : BdS) : ∀ k, bOpn s k ≤ k
  | 0 => Nat.le_refl 0
  | k + 1 => by
    have h := bOpn_le s k
    unfold bOpn
    split <;> omega
