/-! NUMBERS as registers hold them -/
def zn (x : Int) : Int := (Int32.ofInt x).toInt
theorem zn_of (x : Int) : Int32.ofInt (zn x) = Int32.ofInt x := Int32.ofInt_toInt _
theorem zn_r (x : Int) : r32 (zn x) := by
  have h1 := Int32.le_toInt (Int32.ofInt x)
  have h2 := Int32.toInt_lt (Int32.ofInt x)
  unfold zn
  constructor <;> omega
theorem zWt (x : Int) : zW x (zn x) := ⟨zn_of x, zn_r x⟩
theorem zn_id {x : Int} (h : r32 x) : zn x = x := z32 h
theorem zn_eq {x y : Int} : zn x = zn y ↔ Int32.ofInt x = Int32.ofInt y := by
  unfold zn
  exact Int32.toInt_inj
theorem zn_zn (x : Int) : zn (zn x) = zn x := zn_id (zn_r x)
theorem zn_al (x y : Int) : zn (zn x + y) = zn (x + y) := zn_eq.mpr (by rw [Int32.ofInt_add, Int32.ofInt_add, zn_of])
theorem zn_ar (x y : Int) : zn (x + zn y) = zn (x + y) := zn_eq.mpr (by rw [Int32.ofInt_add, Int32.ofInt_add, zn_of])
theorem zand_l (x y : Int) : zand (zn x) y = zand x y := by unfold zand; rw [zn_of]
theorem zand_r (x y : Int) : zand x (zn y) = zand x y := by unfold zand; rw [zn_of]
theorem zxor_l (x y : Int) : zxor (zn x) y = zxor x y := by unfold zxor; rw [zn_of]
theorem zxor_r (x y : Int) : zxor x (zn y) = zxor x y := by unfold zxor; rw [zn_of]
theorem zor_l (x y : Int) : zor (zn x) y = zor x y := by unfold zor; rw [zn_of]
theorem zor_r (x y : Int) : zor x (zn y) = zor x y := by unfold zor; rw [zn_of]
theorem zushr_l (x y : Int) : zushr (zn x) y = zushr x y := by unfold zushr; rw [zn_of]
theorem zshl_l (x y : Int) : zshl (zn x) y = zshl x y := by unfold zshl; rw [zn_of]
theorem zshr_l (x y : Int) : zshr (zn x) y = zshr x y := by unfold zshr; rw [zn_of]
theorem zr_i (a : Int32) : r32 a.toInt := by
  have h1 := Int32.le_toInt a
  have h2 := Int32.toInt_lt a
  constructor <;> omega
theorem zr_or {x y : Int} : r32 (zor x y) := zr_i _
theorem zr_xor {x y : Int} : r32 (zxor x y) := zr_i _
theorem zr_shl {x y : Int} : r32 (zshl x y) := zr_i _
theorem zr_shr {x y : Int} : r32 (zshr x y) := zr_i _
theorem zr_ushr {x y : Int} : r32 (zushr x y) := zr_i _
/-- bits under a mask -/
theorem zand_bv (x y : Int) : (zand x y) = ((BitVec.ofInt 32 x) &&& (BitVec.ofInt 32 y)).toInt := rfl
theorem zand255 (x : Int) : zand x 255 = x % 256 := by
  rw [zand_bv, BitVec.toInt_eq_toNat_of_msb]
  · rw [BitVec.toNat_and, show (BitVec.ofInt 32 255).toNat = 2 ^ 8 - 1 from rfl, Nat.and_two_pow_sub_one_eq_mod, BitVec.toNat_ofInt]
    omega
  · rw [BitVec.msb_eq_false_iff_two_mul_lt, BitVec.toNat_and, show (BitVec.ofInt 32 255).toNat = 2 ^ 8 - 1 from rfl, Nat.and_two_pow_sub_one_eq_mod]
    omega
theorem zand63 (x : Int) : zand x 63 = x % 64 := by
  rw [zand_bv, BitVec.toInt_eq_toNat_of_msb]
  · rw [BitVec.toNat_and, show (BitVec.ofInt 32 63).toNat = 2 ^ 6 - 1 from rfl, Nat.and_two_pow_sub_one_eq_mod, BitVec.toNat_ofInt]
    omega
  · rw [BitVec.msb_eq_false_iff_two_mul_lt, BitVec.toNat_and, show (BitVec.ofInt 32 63).toNat = 2 ^ 6 - 1 from rfl, Nat.and_two_pow_sub_one_eq_mod]
    omega
theorem zand1 (x : Int) : zand x 1 = x % 2 := by
  rw [zand_bv, BitVec.toInt_eq_toNat_of_msb]
  · rw [BitVec.toNat_and, show (BitVec.ofInt 32 1).toNat = 2 ^ 1 - 1 from rfl, Nat.and_two_pow_sub_one_eq_mod, BitVec.toNat_ofInt]
    omega
  · rw [BitVec.msb_eq_false_iff_two_mul_lt, BitVec.toNat_and, show (BitVec.ofInt 32 1).toNat = 2 ^ 1 - 1 from rfl, Nat.and_two_pow_sub_one_eq_mod]
    omega
/-- a shift by a known number -/
theorem zshr_d (x : Int) (h : r32 x) (k : Nat) (hk : k < 32) : zshr x k = x / 2 ^ k := by
  have e : (Int32.ofInt (k : Int) &&& 31) = Int32.ofNat k := by
    rw [Int32.ofInt_eq_ofNat]
    revert k; decide
  unfold zshr
  rw [e]
  have e2 : (Int32.ofInt x >>> Int32.ofNat k).toInt = (Int32.ofInt x).toInt / 2 ^ k := by
    show ((Int32.ofInt x).toBitVec.sshiftRight' ((Int32.ofNat k).toBitVec.smod 32)).toInt = _
    have e3 : ((Int32.ofNat k).toBitVec.smod 32).toNat = k := by revert k; decide
    rw [BitVec.sshiftRight', e3, BitVec.toInt_sshiftRight, Int.shiftRight_eq_div_pow]
    rfl
  rw [e2, z32 h]
theorem zushr_d (x : Int) (k : Nat) (h0 : 0 < k) (hk : k < 32) : zushr x k = (x % 4294967296) / 2 ^ k := by
  have e : Int32.toUInt32 (Int32.ofInt (k : Int)) &&& Int32.toUInt32 31 = UInt32.ofNat k := by
    rw [Int32.ofInt_eq_ofNat]
    clear h0
    revert k; decide
  unfold zushr
  rw [e]
  have e3 : ((UInt32.ofNat k).toNat % 32) = k := by clear e h0; revert k; decide
  have e1 : ((Int32.ofInt x).toUInt32 >>> UInt32.ofNat k).toNat = (x % 4294967296).toNat / 2 ^ k := by
    rw [UInt32.toNat_shiftRight, e3, Nat.shiftRight_eq_div_pow]
    congr 1
  show ((Int32.ofInt x).toUInt32 >>> UInt32.ofNat k).toBitVec.toInt = _
  have hlt : ((Int32.ofInt x).toUInt32 >>> UInt32.ofNat k).toNat < 2 ^ 31 := by
    rw [e1]
    have h2 : (x % 4294967296).toNat < 2 ^ 32 := by omega
    have h3 : 2 ^ 1 ≤ 2 ^ k := Nat.pow_le_pow_right (by decide) h0
    calc _ ≤ (x % 4294967296).toNat / 2 ^ 1 := Nat.div_le_div_left h3 (by decide)
      _ < 2 ^ 31 := by omega
  rw [BitVec.toInt_eq_toNat_of_lt (by show 2 * ((Int32.ofInt x).toUInt32 >>> UInt32.ofNat k).toNat < 2 ^ 32; omega)]
  show (((Int32.ofInt x).toUInt32 >>> UInt32.ofNat k).toNat : Int) = _
  rw [e1, Int.natCast_ediv, Int.natCast_pow]
  congr 1
  omega
def zn6 (x : Int) : Int := (Int64.ofInt x).toInt
theorem zn6_of (x : Int) : Int64.ofInt (zn6 x) = Int64.ofInt x := Int64.ofInt_toInt _
theorem zn6_r (x : Int) : r64 (zn6 x) := (zW6t x).2
