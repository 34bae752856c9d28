/-! BOARDS: the grid, pads, nets, ways -/
theorem zmb {a b A B : Int} (h0 : 0 ≤ a) (h1 : a ≤ A) (h2 : 0 ≤ b) (h3 : b ≤ B) : 0 ≤ a * b ∧ a * b ≤ A * B := ⟨Int.mul_nonneg h0 h2, Int.mul_le_mul h1 h3 h2 (by omega)⟩
theorem nmb {a b A B : Nat} (h1 : a ≤ A) (h3 : b ≤ B) : a * b ≤ A * B := Nat.mul_le_mul h1 h3
/-- a cell's number -/
def cxN (W H l i j : Nat) : Nat := (l * H + j) * W + i
def cxI (W H D : Nat) (l i j : Int) : Int := if 0 ≤ l ∧ l < D ∧ 0 ≤ i ∧ i < W ∧ 0 ≤ j ∧ j < H then ((l.toNat * H + j.toNat) * W + i.toNat : Nat) else -1
theorem cx_lt {W H D l i j : Nat} (hl : l < D) (hi : i < W) (hj : j < H) : (l * H + j) * W + i < W * H * D := by
  have h1 : l * H + j + 1 ≤ D * H := by
    have h2 : (l + 1) * H ≤ D * H := Nat.mul_le_mul_right H hl
    rw [Nat.succ_mul] at h2
    omega
  have h3 : (l * H + j + 1) * W ≤ D * H * W := Nat.mul_le_mul_right W h1
  rw [Nat.succ_mul] at h3
  rw [show W * H * D = D * H * W by rw [Nat.mul_comm (W * H) D, Nat.mul_comm W H, Nat.mul_assoc]]
  omega
theorem cx_col {W H l i j : Nat} (hi : i < W) : ((l * H + j) * W + i) % W = i := by
  rw [Nat.add_comm, Nat.add_mul_mod_self_right, Nat.mod_eq_of_lt hi]
theorem cx_q {W H l i j : Nat} (hi : i < W) : ((l * H + j) * W + i) / W = l * H + j := by
  rw [Nat.add_comm, Nat.add_mul_div_right _ _ (by omega), Nat.div_eq_of_lt hi, Nat.zero_add]
theorem cx_row {W H l i j : Nat} (hi : i < W) (hj : j < H) : ((l * H + j) * W + i) / W % H = j := by
  rw [cx_q hi, Nat.add_comm, Nat.add_mul_mod_self_right, Nat.mod_eq_of_lt hj]
theorem cx_lay {W H l i j : Nat} (hi : i < W) (hj : j < H) : ((l * H + j) * W + i) / W / H = l := by
  rw [cx_q hi, Nat.add_comm, Nat.add_mul_div_right _ _ (by omega), Nat.div_eq_of_lt hj, Nat.zero_add]
theorem cx_of {W H D c : Nat} (h : c < W * H * D) : c / W / H < D ∧ c % W < W ∧ c / W % H < H ∧ (c / W / H * H + c / W % H) * W + c % W = c := by
  have hW : 0 < W := Nat.pos_of_ne_zero (fun e => by subst e; rw [Nat.zero_mul, Nat.zero_mul] at h; omega)
  have hH : 0 < H := Nat.pos_of_ne_zero (fun e => by subst e; rw [Nat.mul_zero, Nat.zero_mul] at h; omega)
  refine ⟨?_, Nat.mod_lt _ hW, Nat.mod_lt _ hH, ?_⟩
  · rw [Nat.div_div_eq_div_mul]
    exact Nat.div_lt_of_lt_mul h
  · have h1 := Nat.div_add_mod (c / W) H
    have h2 := Nat.div_add_mod c W
    rw [Nat.mul_comm (c / W / H) H, h1, Nat.mul_comm (c / W) W]
    exact h2
theorem cxI_b {W H D : Nat} {l i j : Int} (hb : W * H * D ≤ 1024) : cxI W H D l i j = -1 ∨ (0 ≤ cxI W H D l i j ∧ cxI W H D l i j < (W * H * D : Nat)) := by
  unfold cxI
  split
  · next h =>
    right
    have := cx_lt (W := W) (H := H) (D := D) (l := l.toNat) (i := i.toNat) (j := j.toNat) (by omega) (by omega) (by omega)
    omega
  · exact Or.inl rfl
/-- a cell's neighbour on a side -/
def nbI (W H D c s : Nat) : Int := if s = 0 then cxI W H D ((c / W / H : Nat) - 1) (c % W : Nat) (c / W % H : Nat) else if s = 1 then cxI W H D (c / W / H : Nat) (c % W : Nat) ((c / W % H : Nat) - 1) else if s = 2 then cxI W H D (c / W / H : Nat) ((c % W : Nat) - 1) (c / W % H : Nat) else if s = 3 then cxI W H D (c / W / H : Nat) ((c % W : Nat) + 1) (c / W % H : Nat) else if s = 4 then cxI W H D (c / W / H : Nat) (c % W : Nat) ((c / W % H : Nat) + 1) else cxI W H D ((c / W / H : Nat) + 1) (c % W : Nat) (c / W % H : Nat)
theorem nbI_b {W H D c s : Nat} (hb : W * H * D ≤ 1024) : nbI W H D c s = -1 ∨ (0 ≤ nbI W H D c s ∧ nbI W H D c s < (W * H * D : Nat)) := by
  unfold nbI
  split
  · exact cxI_b hb
  · split
    · exact cxI_b hb
    · split
      · exact cxI_b hb
      · split
        · exact cxI_b hb
        · split
          · exact cxI_b hb
          · exact cxI_b hb
/-- width, height, layers; the seed; who holds a cell, whether it is barred, its history, its pad; pads; nets; ways; costs; nets of copies -/
abbrev BdS : Type := (Nat × Nat × Nat) × Int × (Nat → Int) × (Nat → Nat) × (Nat → Nat) × (Nat → Int) × Nat × (Nat → Nat → Int) × Nat × (Nat → Nat → Int) × (Nat → Nat) × (Nat → Nat → Nat) × (Nat → Nat → Nat) × (Nat → Int)
abbrev bW (s : BdS) : Nat := s.1.1
abbrev bH (s : BdS) : Nat := s.1.2.1
abbrev bD (s : BdS) : Nat := s.1.2.2
abbrev bsd (s : BdS) : Int := s.2.1
abbrev bho (s : BdS) : Nat → Int := s.2.2.1
abbrev bba (s : BdS) : Nat → Nat := s.2.2.2.1
abbrev bhi (s : BdS) : Nat → Nat := s.2.2.2.2.1
abbrev bpa (s : BdS) : Nat → Int := s.2.2.2.2.2.1
abbrev bnp (s : BdS) : Nat := s.2.2.2.2.2.2.1
abbrev bP (s : BdS) : Nat → Nat → Int := s.2.2.2.2.2.2.2.1
abbrev bnn (s : BdS) : Nat := s.2.2.2.2.2.2.2.2.1
abbrev bN (s : BdS) : Nat → Nat → Int := s.2.2.2.2.2.2.2.2.2.1
abbrev bwl (s : BdS) : Nat → Nat := s.2.2.2.2.2.2.2.2.2.2.1
abbrev bwy (s : BdS) : Nat → Nat → Nat := s.2.2.2.2.2.2.2.2.2.2.2.1
abbrev bco (s : BdS) : Nat → Nat → Nat := s.2.2.2.2.2.2.2.2.2.2.2.2.1
abbrev bnd (s : BdS) : Nat → Int := s.2.2.2.2.2.2.2.2.2.2.2.2.2
abbrev bs_sd (s : BdS) (x : Int) : BdS := (s.1, x, bho s, bba s, bhi s, bpa s, bnp s, bP s, bnn s, bN s, bwl s, bwy s, bco s, bnd s)
abbrev bs_ho (s : BdS) (x : Nat → Int) : BdS := (s.1, bsd s, x, bba s, bhi s, bpa s, bnp s, bP s, bnn s, bN s, bwl s, bwy s, bco s, bnd s)
abbrev bs_ba (s : BdS) (x : Nat → Nat) : BdS := (s.1, bsd s, bho s, x, bhi s, bpa s, bnp s, bP s, bnn s, bN s, bwl s, bwy s, bco s, bnd s)
abbrev bs_hi (s : BdS) (x : Nat → Nat) : BdS := (s.1, bsd s, bho s, bba s, x, bpa s, bnp s, bP s, bnn s, bN s, bwl s, bwy s, bco s, bnd s)
abbrev bs_pa (s : BdS) (x : Nat → Int) : BdS := (s.1, bsd s, bho s, bba s, bhi s, x, bnp s, bP s, bnn s, bN s, bwl s, bwy s, bco s, bnd s)
abbrev bs_np (s : BdS) (x : Nat) : BdS := (s.1, bsd s, bho s, bba s, bhi s, bpa s, x, bP s, bnn s, bN s, bwl s, bwy s, bco s, bnd s)
abbrev bs_P (s : BdS) (x : Nat → Nat → Int) : BdS := (s.1, bsd s, bho s, bba s, bhi s, bpa s, bnp s, x, bnn s, bN s, bwl s, bwy s, bco s, bnd s)
abbrev bs_nn (s : BdS) (x : Nat) : BdS := (s.1, bsd s, bho s, bba s, bhi s, bpa s, bnp s, bP s, x, bN s, bwl s, bwy s, bco s, bnd s)
abbrev bs_N (s : BdS) (x : Nat → Nat → Int) : BdS := (s.1, bsd s, bho s, bba s, bhi s, bpa s, bnp s, bP s, bnn s, x, bwl s, bwy s, bco s, bnd s)
abbrev bs_wl (s : BdS) (x : Nat → Nat) : BdS := (s.1, bsd s, bho s, bba s, bhi s, bpa s, bnp s, bP s, bnn s, bN s, x, bwy s, bco s, bnd s)
abbrev bs_wy (s : BdS) (x : Nat → Nat → Nat) : BdS := (s.1, bsd s, bho s, bba s, bhi s, bpa s, bnp s, bP s, bnn s, bN s, bwl s, x, bco s, bnd s)
abbrev bs_co (s : BdS) (x : Nat → Nat → Nat) : BdS := (s.1, bsd s, bho s, bba s, bhi s, bpa s, bnp s, bP s, bnn s, bN s, bwl s, bwy s, x, bnd s)
abbrev bs_nd (s : BdS) (x : Nat → Int) : BdS := (s.1, bsd s, bho s, bba s, bhi s, bpa s, bnp s, bP s, bnn s, bN s, bwl s, bwy s, bco s, x)
/-- how many of the first p pads are of a net -/
def bcn (P : Nat → Nat → Int) (n : Int) : Nat → Nat
  | 0 => 0
  | p + 1 => bcn P n p + if P p 3 = n then 1 else 0
theorem bcn_le (P : Nat → Nat → Int) (n : Int) : ∀ p, bcn P n p ≤ p
  | 0 => Nat.le_refl 0
  | p + 1 => by
    have h := bcn_le P n p
    unfold bcn
    split <;> omega
theorem bcn_mono {P : Nat → Nat → Int} {n : Int} {a : Nat} : ∀ {b : Nat}, a ≤ b → bcn P n a ≤ bcn P n b
  | 0, h => by rw [show a = 0 by omega]; exact Nat.le_refl _
  | b + 1, h => by
    by_cases e : a = b + 1
    · rw [e]; exact Nat.le_refl _
    · exact Nat.le_trans (bcn_mono (show a ≤ b by omega)) (Nat.le_add_right _ _)
/-- what holds of each board -/
def bGd (s : BdS) : Prop := ((1 ≤ bW s ∧ bW s ≤ 16) ∧ (1 ≤ bH s ∧ bH s ≤ 16) ∧ (1 ≤ bD s ∧ bD s ≤ 4) ∧ bW s * bH s * bD s ≤ 1024) ∧ (bnp s ≤ 40 ∧ bnn s ≤ 12) ∧
  (∀ c, c < 1024 → bba s c ≤ 1 ∧ (bba s c = 1 → bho s c = -1) ∧ -1 ≤ bho s c ∧ bho s c < bnn s ∧ -1 ≤ bpa s c ∧ bpa s c < bnp s ∧ (bpa s c ≠ -1 → bP s (bpa s c).toNat 2 = c) ∧ (bW s * bH s * bD s ≤ c → bho s c = -1)) ∧
  (∀ p, p < bnp s → (0 ≤ bP s p 0 ∧ bP s p 0 < 60) ∧ (0 ≤ bP s p 1 ∧ bP s p 1 < 16) ∧ (0 ≤ bP s p 2 ∧ bP s p 2 < (bW s * bH s * bD s : Nat)) ∧ (0 ≤ bP s p 3 ∧ bP s p 3 < bnn s) ∧ bpa s (bP s p 2).toNat = p ∧ bho s (bP s p 2).toNat = bP s p 3) ∧
  (∀ n, n < bnn s → bN s n 1 = bcn (bP s) n (bnp s) ∧ bcn (bP s) n (bnp s) ≤ 5 ∧ (bN s n 2 = 0 ∨ bN s n 2 = 1) ∧ (0 ≤ bN s n 5 ∧ bN s n 5 < 4096) ∧ bwl s n ≤ 1024 ∧ (bN s n 2 = 0 → bwl s n = 0) ∧
    (∀ k, k < bwl s n → bwy s n k < bW s * bH s * bD s ∧ bho s (bwy s n k) = n) ∧ ∀ c, c < 1024 → bho s c = n → bpa s c = -1 → zex (fun k => k < bwl s n ∧ bwy s n k = c)) ∧
  (∀ k l, k < 3 → l < 4 → bco s k l ≤ 50) ∧ (∀ x, x < 960 → -1 ≤ bnd s x ∧ bnd s x < 960) ∧ ∀ a b, a < b → b < bnn s → bN s a 0 ≠ bN s b 0
/-- the board as the class holds it -/
def zBA (b : Nat) (s : BdS) (I L : ZI) : Prop := (I 82 0 = (b : Int) - 1 ∧ I 82 1 = bW s ∧ I 82 2 = bH s ∧ I 82 3 = bD s ∧ L 82 4 = bsd s) ∧ (∀ c x : Nat, c < bW s * bH s * bD s → x < 6 → I 83 (6 * c + x) = nbI (bW s) (bH s) (bD s) c x) ∧
  (∀ c : Nat, c < 1024 → I 84 c = bba s c ∧ I 85 c = bhi s c ∧ I 86 c = bho s c ∧ I 87 c = bpa s c) ∧ zRT 88 40 (bnp s) (bP s) I ∧ zRT 90 12 (bnn s) (bN s) I ∧
  (∀ n : Nat, n < bnn s → I 93 n = bwl s n ∧ ∀ k : Nat, k < bwl s n → I 92 (1024 * n + k) = bwy s n k) ∧ (∀ l : Nat, l < 4 → I 94 l = bco s 0 l ∧ I 95 l = bco s 1 l ∧ I 96 l = bco s 2 l) ∧ ∀ x : Nat, x < 960 → I 97 x = bnd s x
theorem zBA_fr {b : Nat} {s : BdS} {I L I' L' : ZI} (h : zBA b s I L) (hf : ∀ c j, 82 ≤ c ∧ c ≤ 97 → I' c j = I c j) (hl : ∀ c j, c = 82 → L' c j = L c j) : zBA b s I' L' := by
  obtain ⟨⟨q1, q2, q3, q4, q5⟩, h2, h3, h4, h5, h6, h7, h8⟩ := h
  exact ⟨⟨(hf 82 0 (by omega)).trans q1, (hf 82 1 (by omega)).trans q2, (hf 82 2 (by omega)).trans q3, (hf 82 3 (by omega)).trans q4, (hl 82 4 rfl).trans q5⟩, fun c x a b => (hf 83 _ (by omega)).trans (h2 c x a b), fun c hc => ⟨(hf 84 c (by omega)).trans (h3 c hc).1, (hf 85 c (by omega)).trans (h3 c hc).2.1, (hf 86 c (by omega)).trans (h3 c hc).2.2.1, (hf 87 c (by omega)).trans (h3 c hc).2.2.2⟩,
    zRT_fr h4 (fun c j q => hf c j (by omega)), zRT_fr h5 (fun c j q => hf c j (by omega)), fun n hn => ⟨(hf 93 n (by omega)).trans (h6 n hn).1, fun k hk => (hf 92 _ (by omega)).trans ((h6 n hn).2 k hk)⟩, fun l hl => ⟨(hf 94 l (by omega)).trans (h7 l hl).1, (hf 95 l (by omega)).trans (h7 l hl).2.1, (hf 96 l (by omega)).trans (h7 l hl).2.2⟩, fun x hx => (hf 97 x (by omega)).trans (h8 x hx)⟩
/-- a net lets go of what it holds but its pads; a cell comes to its way -/
def bLet (s : BdS) (n : Nat) : BdS := bs_N (bs_wl (bs_ho s (fun c => if bho s c = n ∧ bpa s c = -1 then -1 else bho s c)) (upF (bwl s) n 0)) (up2z (bN s) n 2 0)
def bWay (s : BdS) (n c : Nat) : BdS := bs_wy (bs_wl s (upF (bwl s) n (bwl s n + 1))) (up2 (bwy s) n (bwl s n) c)
/-- what lies on a way is the net's, and all that the net holds -/
def bWok (s : BdS) (n : Nat) : Prop := bwl s n ≤ 1024 ∧ (∀ k, k < bwl s n → bwy s n k < 1024 ∧ bho s (bwy s n k) = n) ∧ ∀ c, c < 1024 → bho s c = n → bpa s c = -1 → zex (fun k => k < bwl s n ∧ bwy s n k = c)
theorem zBA_N {b : Nat} {s : BdS} {I I' L L' : ZI} {f : Nat → Nat → Int} (h : zBA b s I L) (hN : zRT 90 12 (bnn s) f I') (hf : ∀ c j, 82 ≤ c ∧ c ≤ 97 ∧ c ≠ 90 ∧ c ≠ 91 → I' c j = I c j) (hl : ∀ c j, c = 82 → L' c j = L c j) : zBA b (s.1, bsd s, bho s, bba s, bhi s, bpa s, bnp s, bP s, bnn s, f, bwl s, bwy s, bco s, bnd s) I' L' := by
  obtain ⟨⟨q1, q2, q3, q4, q5⟩, h2, h3, h4, h5, h6, h7, h8⟩ := h
  exact ⟨⟨(hf 82 0 (by omega)).trans q1, (hf 82 1 (by omega)).trans q2, (hf 82 2 (by omega)).trans q3, (hf 82 3 (by omega)).trans q4, (hl 82 4 rfl).trans q5⟩, fun c x a b => (hf 83 _ (by omega)).trans (h2 c x a b), fun c hc => ⟨(hf 84 c (by omega)).trans (h3 c hc).1, (hf 85 c (by omega)).trans (h3 c hc).2.1, (hf 86 c (by omega)).trans (h3 c hc).2.2.1, (hf 87 c (by omega)).trans (h3 c hc).2.2.2⟩,
    zRT_fr h4 (fun c j q => hf c j (by omega)), hN, fun n hn => ⟨(hf 93 n (by omega)).trans (h6 n hn).1, fun k hk => (hf 92 _ (by omega)).trans ((h6 n hn).2 k hk)⟩, fun l hl => ⟨(hf 94 l (by omega)).trans (h7 l hl).1, (hf 95 l (by omega)).trans (h7 l hl).2.1, (hf 96 l (by omega)).trans (h7 l hl).2.2⟩, fun x hx => (hf 97 x (by omega)).trans (h8 x hx)⟩
theorem zBA_P {b : Nat} {s : BdS} {I I' L L' : ZI} {c : Nat} {f : Nat → Nat → Int} (h : zBA b s I L) (hN : zRT 88 40 c f I') (hf : ∀ c j, 82 ≤ c ∧ c ≤ 97 ∧ c ≠ 88 ∧ c ≠ 89 → I' c j = I c j) (hl : ∀ c j, c = 82 → L' c j = L c j) : zBA b (s.1, bsd s, bho s, bba s, bhi s, bpa s, c, f, bnn s, bN s, bwl s, bwy s, bco s, bnd s) I' L' := by
  obtain ⟨⟨q1, q2, q3, q4, q5⟩, h2, h3, h4, h5, h6, h7, h8⟩ := h
  exact ⟨⟨(hf 82 0 (by omega)).trans q1, (hf 82 1 (by omega)).trans q2, (hf 82 2 (by omega)).trans q3, (hf 82 3 (by omega)).trans q4, (hl 82 4 rfl).trans q5⟩, fun c x a b => (hf 83 _ (by omega)).trans (h2 c x a b), fun c hc => ⟨(hf 84 c (by omega)).trans (h3 c hc).1, (hf 85 c (by omega)).trans (h3 c hc).2.1, (hf 86 c (by omega)).trans (h3 c hc).2.2.1, (hf 87 c (by omega)).trans (h3 c hc).2.2.2⟩,
    hN, zRT_fr h5 (fun c j q => hf c j (by omega)), fun n hn => ⟨(hf 93 n (by omega)).trans (h6 n hn).1, fun k hk => (hf 92 _ (by omega)).trans ((h6 n hn).2 k hk)⟩, fun l hl => ⟨(hf 94 l (by omega)).trans (h7 l hl).1, (hf 95 l (by omega)).trans (h7 l hl).2.1, (hf 96 l (by omega)).trans (h7 l hl).2.2⟩, fun x hx => (hf 97 x (by omega)).trans (h8 x hx)⟩
/-- the n-th bit that is set, of twelve -/
def bBit (v : Int) (o : Nat) : Prop := zand (zshr v o) 1 ≠ 0
noncomputable def bNth (v : Int) : Nat → Nat → Int → Int
  | 0, _, _ => -1
  | n + 1, o, k => zite (bBit v o) (if k = 0 then (o : Int) else bNth v n (o + 1) (k - 1)) (bNth v n (o + 1) k)
/-- how many of the first k nets are open -/
def bOpn (s : BdS) : Nat → Nat
  | 0 => 0
  | k + 1 => bOpn s k + (if 0 < bN s k 1 ∧ bN s k 2 ≠ 1 then 1 else 0)
theorem bOpn_le (s : BdS) : ∀ k, bOpn s k ≤ k
  | 0 => Nat.le_refl 0
  | k + 1 => by
    have h := bOpn_le s k
    unfold bOpn
    split <;> omega
/-- a cell of a way, told -/
def bWp (s : BdS) (n k w : Int) : Int := if 0 ≤ n ∧ n < bnn s ∧ bN s n.toNat 2 = 1 ∧ 0 ≤ k ∧ k < bwl s n.toNat then (if w = 0 then ((bwy s n.toNat k.toNat / bW s / bH s : Nat) : Int) else if w = 1 then ((bwy s n.toNat k.toNat % bW s : Nat) : Int) else if w = 2 then ((bwy s n.toNat k.toNat / bW s % bH s : Nat) : Int) else -1) else -1
noncomputable def bBlk (s : BdS) (n k : Int) : Int := if 0 ≤ n ∧ n < bnn s then bNth (bN s n.toNat 5) 12 0 k else -1
/-- what a step to a side costs; what is told of the cell that it comes to -/
def bStp (s : BdS) (c x : Nat) : Nat := if x = 0 then 2 + (if 0 < c / bW s / bH s then bco s 1 (c / bW s / bH s - 1) else 0) else if x = 5 then 2 + bco s 1 (c / bW s / bH s) else if (x = 1 ∨ x = 4) ↔ (c / bW s / bH s) % 2 = 0 then 2 + bco s 0 (c / bW s / bH s) else 2
def bHO (s : BdS) (n : Int) (c : Int) : Prop := c ≠ -1 ∧ bho s c.toNat ≠ -1 ∧ bho s c.toNat ≠ n
noncomputable def bNr (s : BdS) (n : Int) (c : Nat) : Nat → Nat
  | 0 => 0
  | x + 1 => bNr s n c x + zite (bHO s n (nbI (bW s) (bH s) (bD s) c (x + 1))) 1 0
theorem bNr_le (s : BdS) (n : Int) (c : Nat) : ∀ x, bNr s n c x ≤ x
  | 0 => Nat.le_refl 0
  | x + 1 => by
    have h := bNr_le s n c x
    unfold bNr
    by_cases e : bHO s n (nbI (bW s) (bH s) (bD s) c (x + 1))
    · rw [zite_t e]; omega
    · rw [zite_f e]; omega
noncomputable def bEnt (s : BdS) (n : Int) (c : Nat) : Nat := bhi s c + bco s 2 (c / bW s / bH s) * bNr s n c 4
/-- a cell barred -/
def bBarV (b : Nat) (s : BdS) (l i j : Int) : Int := if b = 0 then -3 else if cxI (bW s) (bH s) (bD s) l i j = -1 then -2 else if bba s (cxI (bW s) (bH s) (bD s) l i j).toNat ≠ 0 ∨ bho s (cxI (bW s) (bH s) (bD s) l i j).toNat ≠ -1 then -4 else 0
def bBar (s : BdS) (c : Nat) : BdS := bs_ba s (upF (bba s) c 1)
/-- a new board -/
def bNew (W H D : Nat) (sd : Int) (nd : Nat → Int) : BdS := ((W, H, D), sd, fun _ => -1, fun _ => 0, fun _ => 0, fun _ => -1, 0, fun _ _ => 0, 0, fun _ _ => 0, fun _ => 0, fun _ _ => 0, fun _ _ => 0, nd)
/-- a pad put -/
def bSn (s : BdS) (t o : Int) : Int := if 0 ≤ t ∧ t < 60 ∧ 0 ≤ o ∧ o < 16 then bnd s (16 * t.toNat + o.toNat) else -1
noncomputable def bRt (s : BdS) (sn : Int) : Int := zlow (fun n => bN s n 0 = sn) (bnn s)
noncomputable def bRn (s : BdS) (sn : Int) : Nat := if bRt s sn = -1 then bnn s else (bRt s sn).toNat
noncomputable def bRs (s : BdS) (sn : Int) : BdS := if bRt s sn = -1 then (s.1, bsd s, bho s, bba s, bhi s, bpa s, bnp s, bP s, bnn s + 1, upR (bN s) (bnn s) sn 0 0 0 0, upF (bwl s) (bnn s) 0, bwy s, bco s, bnd s) else s
def bFree (s : BdS) (n c : Nat) : Prop := bba s c = 0 ∧ bpa s c = -1 ∧ (bho s c = -1 ∨ bho s c = n) ∧ bN s n 1 < 5
def bPad (s : BdS) (n c : Nat) (t o : Int) : BdS := (s.1, bsd s, (fun x => if x = c then (n : Int) else bho (bLet s n) x), bba s, bhi s, upF (bpa s) c (bnp s), bnp s + 1, upR (bP s) (bnp s) t o c n 0, bnn s, up2z (up2z (bN s) n 2 0) n 1 (bN s n 1 + 1), upF (bwl s) n 0, bwy s, bco s, bnd s)
def bHas (s : BdS) (t o : Int) : Prop := zex (fun p => p < bnp s ∧ bP s p 0 = t ∧ bP s p 1 = o)
noncomputable def bPutV (b : Nat) (s : BdS) (t o l i j : Int) : Int := if b = 0 then -3 else if bSn s t o = -1 ∨ cxI (bW s) (bH s) (bD s) l i j = -1 then -2 else zite (bHas s t o) (-4) (if bnp s = 40 ∨ (bRt s (bSn s t o) = -1 ∧ bnn s = 12) then -1 else zite (bFree (bRs s (bSn s t o)) (bRn s (bSn s t o)) (cxI (bW s) (bH s) (bD s) l i j).toNat) (bnp s : Int) (-4))
noncomputable def bPutS (b : Nat) (s : BdS) (t o l i j : Int) : BdS := if b = 0 then s else if bSn s t o = -1 ∨ cxI (bW s) (bH s) (bD s) l i j = -1 then s else zite (bHas s t o) s (if bnp s = 40 ∨ (bRt s (bSn s t o) = -1 ∧ bnn s = 12) then s else zite (bFree (bRs s (bSn s t o)) (bRn s (bSn s t o)) (cxI (bW s) (bH s) (bD s) l i j).toNat) (bPad (bRs s (bSn s t o)) (bRn s (bSn s t o)) (cxI (bW s) (bH s) (bD s) l i j).toNat t o) (bRs s (bSn s t o)))
