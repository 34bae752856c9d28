/-! MASKS of nets -/
def zmk (v h : Int) : Int := zor v (zshl 1 h)
theorem zor_bv (x y : Int) : (zor x y) = ((BitVec.ofInt 32 x) ||| (BitVec.ofInt 32 y)).toInt := rfl
theorem zshl1 : ∀ h : Nat, h < 12 → zshl 1 (h : Int) = ((2 ^ h : Nat) : Int) := by decide
theorem zor_nat {a b : Nat} (ha : a < 4096) (hb : b < 4096) : zor (a : Int) (b : Int) = ((a ||| b : Nat) : Int) := by
  have h : a ||| b < 2 ^ 12 := Nat.or_lt_two_pow (n := 12) ha hb
  rw [zor_bv, BitVec.ofInt_natCast, BitVec.ofInt_natCast, ← BitVec.ofNat_or, BitVec.toInt_eq_toNat_cond, BitVec.toNat_ofNat, Nat.mod_eq_of_lt (by omega), if_pos (by omega)]
theorem zmk_n {v h : Nat} (hv : v < 4096) (hh : h < 12) : zmk (v : Int) (h : Int) = ((v ||| 2 ^ h : Nat) : Int) := by
  unfold zmk
  rw [zshl1 h hh, zor_nat hv (Nat.lt_of_lt_of_le (Nat.pow_lt_pow_right (by decide) hh) (by decide))]
theorem zmk_b {v h : Int} {m : Nat} (hv : 0 ≤ v ∧ v < ((2 ^ m : Nat) : Int)) (hh : 0 ≤ h ∧ h < m) (hm : m ≤ 12) : 0 ≤ zmk v h ∧ zmk v h < ((2 ^ m : Nat) : Int) := by
  have h12 : 2 ^ m ≤ 2 ^ 12 := Nat.pow_le_pow_right (by decide) hm
  have e := zmk_n (v := v.toNat) (h := h.toNat) (by omega) (by omega)
  rw [Int.toNat_of_nonneg hv.1, Int.toNat_of_nonneg hh.1] at e
  have h2 : v.toNat ||| 2 ^ h.toNat < 2 ^ m := Nat.or_lt_two_pow (by omega) (Nat.pow_lt_pow_right (by decide) (by omega))
  rw [e]
  omega
theorem zmk_12 {v h : Int} (hv : 0 ≤ v ∧ v < 4096) (hh : 0 ≤ h ∧ h < 12) : 0 ≤ zmk v h ∧ zmk v h < 4096 := zmk_b (m := 12) hv hh (by decide)
theorem bBit_no {v : Int} {m k : Nat} (hv : 0 ≤ v ∧ v < ((2 ^ m : Nat) : Int)) (hm : m ≤ 12) (hk : m ≤ k) (hk2 : k < 32) : ¬ bBit v k := by
  have h12 : 2 ^ m ≤ 2 ^ 12 := Nat.pow_le_pow_right (by decide) hm
  have hk3 : 2 ^ m ≤ 2 ^ k := Nat.pow_le_pow_right (by decide) hk
  unfold bBit
  rw [zshr_d v (by unfold r32; omega) k hk2, zand1, Int.ediv_eq_zero_of_lt hv.1 (by
    have e : ((2 : Int) ^ k) = ((2 ^ k : Nat) : Int) := by rw [Int.natCast_pow]; rfl
    rw [e]
    omega)]
  decide
/-- the nets that hold a neighbour of a cell -/
noncomputable def bMs (s : BdS) (n : Int) (c : Nat) (v : Int) : Nat → Int
  | 0 => v
  | x + 1 => zite (bHO s n (bnb s c x)) (zmk (bMs s n c v x) (bho s (bnb s c x).toNat)) (bMs s n c v x)
/-- of a cell that the search came to -/
noncomputable def bMc (s : BdS) (n : Nat) : Nat → Int
  | 0 => 0
  | k + 1 => if bDn s n 0 k ≠ -1 then bMs s n k (bMc s n k) 6 else bMc s n k
theorem bMs_b {s : BdS} {n : Int} {c : Nat} {v : Int} (hb : bK s ≤ 1024) (hh : ∀ c, c < 1024 → -1 ≤ bho s c ∧ bho s c < 12) (hv : 0 ≤ v ∧ v < 4096) : ∀ x, 0 ≤ bMs s n c v x ∧ bMs s n c v x < 4096
  | 0 => hv
  | x + 1 => by
    have w := bMs_b (n := n) (c := c) hb hh hv x
    show 0 ≤ zite (bHO s n (bnb s c x)) (zmk (bMs s n c v x) (bho s (bnb s c x).toNat)) (bMs s n c v x) ∧ zite (bHO s n (bnb s c x)) (zmk (bMs s n c v x) (bho s (bnb s c x).toNat)) (bMs s n c v x) < 4096
    by_cases e : bHO s n (bnb s c x)
    · rw [zite_t e]
      have b0 := nbI_b (W := bW s) (H := bH s) (D := bD s) (c := c) (s := x) hb
      have e9 : nbI (bW s) (bH s) (bD s) c x = bnb s c x := rfl
      have e8 : (bW s * bH s * bD s : Nat) = bK s := rfl
      have q1 := e.1
      have q2 := e.2.1
      have q3 := hh (bnb s c x).toNat (by omega)
      exact zmk_12 w (by omega)
    · rw [zite_f e]; exact w
theorem bMc_b {s : BdS} {n : Nat} (hb : bK s ≤ 1024) (hh : ∀ c, c < 1024 → -1 ≤ bho s c ∧ bho s c < 12) : ∀ k, 0 ≤ bMc s n k ∧ bMc s n k < 4096
  | 0 => ⟨Int.le_refl 0, (show (0 : Int) < 4096 by decide)⟩
  | k + 1 => by
    have w := bMc_b (n := n) hb hh k
    unfold bMc
    split
    · exact bMs_b hb hh w 6
    · exact w
/-- boards of one size -/
theorem bss {s1 s : BdS} (h : s1.1 = s.1 ∧ bco s1 = bco s) : bK s1 = bK s ∧ (∀ c x, bnb s1 c x = bnb s c x) ∧ ∀ c x, bStp s1 c x = bStp s c x := by
  have e : ∀ c x, bStp s1 c x = bStp s c x := fun c x => by
    unfold bStp
    rw [h.2, show bW s1 = bW s from congrArg (·.1) h.1, show bH s1 = bH s from congrArg (·.2.1) h.1]
  refine ⟨?_, fun c x => ?_, e⟩
  · show s1.1.1 * s1.1.2.1 * s1.1.2.2 = s.1.1 * s.1.2.1 * s.1.2.2
    rw [h.1]
  · show nbI s1.1.1 s1.1.2.1 s1.1.2.2 c x = nbI s.1.1 s.1.2.1 s.1.2.2 c x
    rw [h.1]
/-- the cell of a net's first pad -/
noncomputable def bFp (s : BdS) (n : Int) : Int := if zlow (fun p => bP s p 3 = n) (bnp s) = -1 then -1 else bP s (zlow (fun p => bP s p 3 = n) (bnp s)).toNat 2
