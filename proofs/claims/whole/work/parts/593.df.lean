/-! CUTS, the reference: shifts of longs, points and lines -/
theorem zlshr_d (x : Int) (h : r64 x) (k : Nat) (hk : k < 64) : zlshr x k = x / 2 ^ k := by
  have e3 : ((Int64.ofNat k).toBitVec.smod 64).toNat = k := by revert k; decide
  unfold zlshr
  rw [zlsh_k k hk]
  have e2 : (Int64.ofInt x >>> Int64.ofNat k).toInt = (Int64.ofInt x).toInt / 2 ^ k := by
    show ((Int64.ofInt x).toBitVec.sshiftRight' ((Int64.ofNat k).toBitVec.smod 64)).toInt = _
    rw [BitVec.sshiftRight', e3, BitVec.toInt_sshiftRight, Int.shiftRight_eq_div_pow]
    rfl
  rw [e2]
  congr 1
  exact Int64.toInt_ofInt_of_le (by have := h.1; omega) (by have := h.2; omega)
theorem zland_m (x : Int) (k : Nat) (hk : k < 63) (h0 : 0 ≤ x) (h1 : x < 9223372036854775808) : zland x (2 ^ k - 1) = x % 2 ^ k := by
  have hp : (2 : Nat) ^ k ≤ 2 ^ 62 := Nat.pow_le_pow_right (by decide) (by omega)
  have hp2 : 0 < (2 : Nat) ^ k := Nat.pos_of_ne_zero (by intro q; have := Nat.pow_eq_zero.mp q; omega)
  have ei : (2 : Int) ^ k - 1 = ((2 ^ k - 1 : Nat) : Int) := by
    rw [Int.natCast_sub hp2]
    simp
  have en : (2 : Int) ^ k = ((2 ^ k : Nat) : Int) := by simp
  obtain ⟨n, rfl⟩ := Int.eq_ofNat_of_zero_le h0
  rw [ei, en]
  unfold zland
  show ((BitVec.ofInt 64 (n : Int)) &&& BitVec.ofInt 64 ((2 ^ k - 1 : Nat) : Int)).toInt = _
  have hn : n < 2 ^ 63 := by omega
  rw [BitVec.toInt_eq_toNat_of_msb]
  · rw [BitVec.toNat_and, BitVec.ofInt_natCast, BitVec.ofInt_natCast, BitVec.toNat_ofNat, BitVec.toNat_ofNat, Nat.mod_eq_of_lt (show n < 2 ^ 64 by omega), Nat.mod_eq_of_lt (show 2 ^ k - 1 < 2 ^ 64 by omega), Nat.and_two_pow_sub_one_eq_mod]
    rfl
  · rw [BitVec.msb_eq_false_iff_two_mul_lt, BitVec.toNat_and, BitVec.ofInt_natCast, BitVec.ofInt_natCast, BitVec.toNat_ofNat, BitVec.toNat_ofNat, Nat.mod_eq_of_lt (show n < 2 ^ 64 by omega), Nat.mod_eq_of_lt (show 2 ^ k - 1 < 2 ^ 64 by omega), Nat.and_two_pow_sub_one_eq_mod]
    have := Nat.mod_lt n hp2
    omega
theorem zla31 {x : Int} (h0 : 0 ≤ x) (h1 : x < 9223372036854775808) : zland x 2147483647 = x % 2147483648 := zland_m x 31 (by decide) h0 h1
theorem zla62 {x : Int} (h0 : 0 ≤ x) (h1 : x < 9223372036854775808) : zland x 4611686018427387903 = x % 4611686018427387904 := zland_m x 62 (by decide) h0 h1
theorem zls31 {x : Int} (h : r64 x) : zlshr x 31 = x / 2147483648 := zlshr_d x h 31 (by decide)
/-- a product of two bounded ones -/
theorem zmbs {a b A B : Int} (h0 : -A ≤ a) (h1 : a ≤ A) (h2 : -B ≤ b) (h3 : b ≤ B) : -(A * B) ≤ a * b ∧ a * b ≤ A * B := by
  have hA : 0 ≤ A := by omega
  have hB : 0 ≤ B := by omega
  rcases Int.le_total 0 a with p | p
  · rcases Int.le_total 0 b with q | q
    · have z := zmb p h1 q h3
      omega
    · have z := zmb p h1 (b := -b) (by omega) (show -b ≤ B by omega)
      rw [Int.mul_neg] at z
      omega
  · rcases Int.le_total 0 b with q | q
    · have z := zmb (a := -a) (A := A) (by omega) (by omega) q h3
      rw [Int.neg_mul] at z
      omega
    · have z := zmb (a := -a) (A := A) (b := -b) (B := B) (by omega) (by omega) (by omega) (by omega)
      rw [Int.neg_mul_neg] at z
      omega
theorem zmp {a b : Int} (h : 0 < a) (g : 0 < b) : 0 < a * b := Int.mul_pos h g
/-- three ways -/
def zc3 (v x y : Int) : Prop := (v = -1 ∧ x < y) ∨ (v = 0 ∧ x = y) ∨ (v = 1 ∧ y < x)
theorem zc3_e {v x y x' y' : Int} (h : zc3 v x y) (e : x = x') (e' : y = y') : zc3 v x' y' := by
  subst e e'
  exact h
theorem zc3_m {v x y k : Int} (hk : 0 < k) (h : zc3 v (x * k) (y * k)) : zc3 v x y := by
  rcases h with ⟨h, g⟩ | ⟨h, g⟩ | ⟨h, g⟩
  · exact Or.inl ⟨h, Int.lt_of_mul_lt_mul_right g (by omega)⟩
  · exact Or.inr (Or.inl ⟨h, Int.eq_of_mul_eq_mul_right (by omega) g⟩)
  · exact Or.inr (Or.inr ⟨h, Int.lt_of_mul_lt_mul_right g (by omega)⟩)
def cuP1 (p a c : Int) : Int := cuGp p p a c 0
def cuP2 (p q a b c d : Int) : Int := cuP1 p a c * cuP1 p a c + cuP1 q b d * cuP1 q b d
theorem cuP1_b {p a c : Int} (h1 : 0 ≤ p ∧ p ≤ 15000) (h2 : 0 ≤ a ∧ a ≤ 15000) (h3 : 0 ≤ c ∧ c ≤ 15000) : 0 ≤ cuP1 p a c ∧ cuP1 p a c ≤ 15000 := cuGp_b h1 h1 h2 h3 (by decide)
theorem cuP1_lo {p a c : Int} (h : a ≤ c) (g : p ≤ a ∨ a = c) : cuP1 p a c * cuP1 p a c = (p - a) * (p - a) := by
  unfold cuP1 cuGp
  rcases Int.le_total p a with q | q
  · rw [show max 0 (max (a - p) (p - c) - 0) = -(p - a) by omega, Int.neg_mul_neg]
  · rw [show max 0 (max (a - p) (p - c) - 0) = p - a by omega]
theorem cuP1_hi {p a c : Int} (h : a ≤ c) (g : c ≤ p ∨ a = c) : cuP1 p a c * cuP1 p a c = (p - c) * (p - c) := by
  unfold cuP1 cuGp
  rcases Int.le_total p c with q | q
  · rw [show max 0 (max (a - p) (p - c) - 0) = -(p - c) by omega, Int.neg_mul_neg]
  · rw [show max 0 (max (a - p) (p - c) - 0) = p - c by omega]
theorem cuP1_in {p a c : Int} (h : a ≤ p ∧ p ≤ c) : cuP1 p a c = 0 := by
  unfold cuP1 cuGp
  omega
theorem cuPx_z {p a c q b d : Int} (hx : a = c ∨ b = d) : (c - a) * (q - b) = 0 ∨ (d - b) * (p - a) = 0 := by
  rcases hx with e | e
  · left; rw [e, Int.sub_self, Int.zero_mul]
  · right; rw [e, Int.sub_self, Int.zero_mul]
theorem cuPw_z {a c b d : Int} (hx : a = c ∨ b = d) : (c - a) * (c - a) = 0 ∨ (d - b) * (d - b) = 0 := by
  rcases hx with e | e
  · left; rw [e, Int.sub_self, Int.zero_mul]
  · right; rw [e, Int.sub_self, Int.zero_mul]
theorem mul_le0 {x y : Int} (h : x * y ≤ 0) (hy : 0 < y) : x ≤ 0 := by
  rcases Int.lt_or_le 0 x with q | q
  · have := zmp q hy; omega
  · exact q
theorem mul_gt0 {x y : Int} (h : 0 < x * y) (hy : 0 ≤ y) : 0 < x ∧ 0 < y := by
  rcases Int.lt_or_le 0 y with q | q
  · refine ⟨?_, q⟩
    rcases Int.lt_or_le 0 x with p | p
    · exact p
    · have : x * y ≤ 0 := Int.mul_nonpos_of_nonpos_of_nonneg p hy
      omega
  · have e : y = 0 := by omega
    rw [e, Int.mul_zero] at h
    omega
/-- below the foot, above it, between -/
theorem cuP2_lo {p q a b c d : Int} (h1 : a ≤ c) (h2 : b ≤ d) (hx : a = c ∨ b = d) (h : (p - a) * (c - a) + (q - b) * (d - b) ≤ 0) : (p - a) * (p - a) + (q - b) * (q - b) = cuP2 p q a b c d := by
  unfold cuP2
  rcases hx with e | e
  · subst e
    rw [Int.sub_self, Int.mul_zero, Int.zero_add] at h
    rw [cuP1_lo h1 (Or.inr rfl), cuP1_lo h2 (by by_cases z : b = d; exact Or.inr z; exact Or.inl (by have := mul_le0 h (by omega); omega))]
  · subst e
    rw [Int.sub_self, Int.mul_zero, Int.add_zero] at h
    rw [cuP1_lo h2 (Or.inr rfl), cuP1_lo h1 (by by_cases z : a = c; exact Or.inr z; exact Or.inl (by have := mul_le0 h (by omega); omega))]
theorem cuP2_hi {p q a b c d : Int} (h1 : a ≤ c) (h2 : b ≤ d) (hx : a = c ∨ b = d) (h : 0 < (p - a) * (c - a) + (q - b) * (d - b)) (g : (c - a) * (c - a) + (d - b) * (d - b) ≤ (p - a) * (c - a) + (q - b) * (d - b)) : (p - c) * (p - c) + (q - d) * (q - d) = cuP2 p q a b c d := by
  unfold cuP2
  rcases hx with e | e
  · subst e
    rw [Int.sub_self, Int.mul_zero, Int.zero_add] at h
    rw [Int.sub_self, Int.mul_zero, Int.mul_zero, Int.zero_add, Int.zero_add] at g
    have z := mul_gt0 h (by omega)
    have y : (d - b) ≤ (q - b) := Int.le_of_mul_le_mul_right g z.2
    rw [cuP1_hi h1 (Or.inr rfl), cuP1_hi h2 (Or.inl (by omega))]
  · subst e
    rw [Int.sub_self, Int.mul_zero, Int.add_zero] at h
    rw [Int.sub_self, Int.mul_zero, Int.mul_zero, Int.add_zero, Int.add_zero] at g
    have z := mul_gt0 h (by omega)
    have y : (c - a) ≤ (p - a) := Int.le_of_mul_le_mul_right g z.2
    rw [cuP1_hi h2 (Or.inr rfl), cuP1_hi h1 (Or.inl (by omega))]
theorem sq_m {x y : Int} : (x * y) * (x * y) = (y * y) * (x * x) := by
  rw [Int.mul_assoc, Int.mul_left_comm y x y, ← Int.mul_assoc, Int.mul_comm]
theorem cuP2_in {p q a b c d t v : Int} (h1 : a ≤ c) (h2 : b ≤ d) (hx : a = c ∨ b = d) (h : 0 < (p - a) * (c - a) + (q - b) * (d - b)) (g : (p - a) * (c - a) + (q - b) * (d - b) < (c - a) * (c - a) + (d - b) * (d - b)) {x : Int} (hxx : x = (c - a) * (q - b) - (d - b) * (p - a) ∨ x = -((c - a) * (q - b) - (d - b) * (p - a))) (hv : zc3 v (x * x) (t * ((c - a) * (c - a) + (d - b) * (d - b)))) : zc3 v (cuP2 p q a b c d) t := by
  have ex : x * x = ((c - a) * (q - b) - (d - b) * (p - a)) * ((c - a) * (q - b) - (d - b) * (p - a)) := by
    rcases hxx with z | z
    · rw [z]
    · rw [z, Int.neg_mul_neg]
  rw [ex] at hv
  unfold cuP2
  rcases hx with e | e
  · subst e
    rw [Int.sub_self, Int.mul_zero, Int.zero_add] at h
    rw [Int.sub_self, Int.mul_zero, Int.mul_zero, Int.zero_add, Int.zero_add] at g
    rw [Int.sub_self, Int.zero_mul, Int.zero_sub, Int.neg_mul_neg, Int.mul_zero, Int.zero_add, sq_m] at hv
    have z := mul_gt0 h (by omega)
    have y : (q - b) < (d - b) := Int.lt_of_mul_lt_mul_right g (by omega)
    have w := zc3_m (zmp z.2 z.2) hv
    rw [cuP1_lo h1 (Or.inr rfl), cuP1_in (p := q) (by omega), Int.mul_zero, Int.add_zero]
    exact w
  · subst e
    rw [Int.sub_self, Int.mul_zero, Int.add_zero] at h
    rw [Int.sub_self, Int.mul_zero, Int.mul_zero, Int.add_zero, Int.add_zero] at g
    rw [Int.sub_self, Int.zero_mul, Int.sub_zero, Int.mul_zero, Int.add_zero, sq_m] at hv
    have z := mul_gt0 h (by omega)
    have y : (p - a) < (c - a) := Int.lt_of_mul_lt_mul_right g (by omega)
    have w := zc3_m (zmp z.2 z.2) hv
    rw [cuP1_lo h2 (Or.inr rfl), cuP1_in (p := p) (by omega), Int.mul_zero, Int.zero_add]
    exact w
/-- on which side -/
def cuSd (v a b c d e f : Int) : Prop := (b = d → (v = 1 ∧ a < c ∧ b < f) ∨ (v = -1 ∧ a < c ∧ f < b) ∨ (v = 0 ∧ (a = c ∨ f = b))) ∧ (a = c → (v = 1 ∧ b < d ∧ e < a) ∨ (v = -1 ∧ b < d ∧ a < e) ∨ (v = 0 ∧ (b = d ∨ e = a))) ∧ -1 ≤ v ∧ v ≤ 1
theorem cuSd_o {a b c d e f v : Int} (h1 : a ≤ c) (h2 : b ≤ d) (hx : a = c ∨ b = d) (h : (v = -1 ∧ (c - a) * (f - b) - (d - b) * (e - a) < 0) ∨ (v = 1 ∧ 0 < (c - a) * (f - b) - (d - b) * (e - a)) ∨ (v = 0 ∧ (c - a) * (f - b) - (d - b) * (e - a) = 0)) : cuSd v a b c d e f := by
  refine ⟨fun q => ?_, fun q => ?_, by omega⟩
  · subst q
    rw [Int.sub_self, Int.zero_mul, Int.sub_zero] at h
    by_cases z : a = c
    · rw [z, Int.sub_self, Int.zero_mul] at h
      omega
    · rcases Int.lt_trichotomy f b with y | y | y
      · have w := zmp (show 0 < c - a by omega) (show 0 < -(f - b) by omega)
        rw [Int.mul_neg] at w
        omega
      · rw [y, Int.sub_self, Int.mul_zero] at h
        omega
      · have w := zmp (show 0 < c - a by omega) (show 0 < f - b by omega)
        omega
  · subst q
    rw [Int.sub_self, Int.zero_mul, Int.zero_sub] at h
    by_cases z : b = d
    · rw [z, Int.sub_self, Int.zero_mul] at h
      omega
    · rcases Int.lt_trichotomy e a with y | y | y
      · have w := zmp (show 0 < d - b by omega) (show 0 < -(e - a) by omega)
        rw [Int.mul_neg] at w
        omega
      · rw [y, Int.sub_self, Int.mul_zero] at h
        omega
      · have w := zmp (show 0 < d - b by omega) (show 0 < e - a by omega)
        omega
