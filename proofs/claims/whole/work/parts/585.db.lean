/-! CUTS: bits of sets of holes; how long what is left can be -/
theorem cuBt_z : ∀ d : Nat, d < 256 → ∀ h : Nat, h < 8 → zand (zshr (d : Int) (h : Int)) 1 = ((d / 2 ^ h % 2 : Nat) : Int) := by decide +kernel
theorem cuTv_b {w : List CuR} {N : Nat} (hG : cuG w) (hN : N = cuHc w) : ∀ F d (l : Int), (l = -1 ∨ (0 ≤ l ∧ l < N)) → 0 ≤ cuTv w N F d l ∧ cuTv w N F d l ≤ 15000 * F
  | 0, _, _, _ => ⟨Int.le_refl 0, Int.le_refl 0⟩
  | F + 1, d, l, hl => by
    show 0 ≤ (if cuMg (cuBt d) (fun n => cuWy w l n + cuTv w N F (d + 2 ^ n) n) N = -1 then 0 else _) ∧ (if cuMg (cuBt d) (fun n => cuWy w l n + cuTv w N F (d + 2 ^ n) n) N = -1 then 0 else _) ≤ 15000 * ((F + 1 : Nat) : Int)
    rcases cuMg_b (U := cuBt d) (g := fun n => cuWy w l n + cuTv w N F (d + 2 ^ n) n) N with z | z
    · rw [if_pos z]
      omega
    · rw [if_neg (by omega)]
      have ih := cuTv_b hG hN F (d + 2 ^ (cuMg (cuBt d) (fun n => cuWy w l n + cuTv w N F (d + 2 ^ n) n) N).toNat) ((cuMg (cuBt d) (fun n => cuWy w l n + cuTv w N F (d + 2 ^ n) n) N).toNat : Nat) (Or.inr (by omega))
      have w1 := cuWy_b (w := w) (a := l) (b := (cuMg (cuBt d) (fun n => cuWy w l n + cuTv w N F (d + 2 ^ n) n) N).toNat) hG (by omega) (by omega)
      omega
theorem cuTt_b {w : List CuR} {N d : Nat} {l : Int} (hG : cuG w) (hN : N = cuHc w) (hl : l = -1 ∨ (0 ≤ l ∧ l < N)) : 0 ≤ cuTt w N d l ∧ cuTt w N d l ≤ 3840000 := cuTv_b hG hN 256 d l hl
/-- bits of a long -/
def zlbt (b : Int) (j : Nat) : Prop := zland (zlshr b (j : Int)) 1 ≠ 0
theorem zr_land {x y : Int} : r64 (zland x y) := by
  have h1 := Int64.le_toInt (Int64.ofInt x &&& Int64.ofInt y)
  have h2 := Int64.toInt_lt (Int64.ofInt x &&& Int64.ofInt y)
  unfold zland
  omega
theorem zlsh_k (k : Nat) (hk : k < 64) : ((Int32.ofInt (k : Int)).toInt64 &&& 63) = Int64.ofNat k := by
  rw [Int32.ofInt_eq_ofNat]
  revert k; decide
theorem zlbt_l {b : Int} {j : Nat} (hj : j < 64) : zlbt b j ↔ (BitVec.ofInt 64 b).getLsbD j = true := by
  have e3 : ((Int64.ofNat j).toBitVec.smod 64).toNat = j := by revert j; decide
  have e1 : zlshr b (j : Int) = ((BitVec.ofInt 64 b).sshiftRight j).toInt := by
    unfold zlshr
    rw [zlsh_k j hj]
    show ((BitVec.ofInt 64 b).sshiftRight' ((Int64.ofNat j).toBitVec.smod 64)).toInt = _
    rw [BitVec.sshiftRight', e3]
  have e2 : zland (zlshr b (j : Int)) 1 = ((BitVec.ofInt 64 b).sshiftRight j &&& 1#64).toInt := by
    rw [e1]
    show ((BitVec.ofInt 64 _ &&& BitVec.ofInt 64 1)).toInt = _
    rw [BitVec.ofInt_toInt]
    rfl
  unfold zlbt
  rw [e2]
  have e4 : ((BitVec.ofInt 64 b).sshiftRight j &&& 1#64) = if (BitVec.ofInt 64 b).getLsbD j then 1#64 else 0#64 := by
    apply BitVec.eq_of_getLsbD_eq
    intro i hi
    rw [BitVec.getLsbD_and, BitVec.getLsbD_sshiftRight]
    by_cases q : i = 0
    · subst q
      cases hb : (BitVec.ofInt 64 b).getLsbD j <;> simp [hb, hj]
    · have e5 : (1#64).getLsbD i = false := by
        rw [BitVec.getLsbD_one]
        simp [q]
      rw [e5, Bool.and_false]
      split
      · exact e5.symm
      · rw [BitVec.getLsbD_zero]
  rw [e4]
  cases (BitVec.ofInt 64 b).getLsbD j
  · decide
  · decide
theorem zlbt_o {b : Int} {j r : Nat} (hj : j < 64) (hr : r < 64) : zlbt (zlor b (zlshl 1 (r : Int))) j ↔ zlbt b j ∨ j = r := by
  rw [zlbt_l hj, zlbt_l hj]
  have e3 : ((Int64.ofNat r).toBitVec.smod 64).toNat = r := by clear hj; revert r; decide
  have e1 : zlshl 1 (r : Int) = ((1#64) <<< r).toInt := by
    unfold zlshl
    rw [zlsh_k r hr]
    show ((BitVec.ofInt 64 1) <<< ((Int64.ofNat r).toBitVec.smod 64)).toInt = _
    rw [BitVec.shiftLeft_eq', e3]
    rfl
  have e2 : BitVec.ofInt 64 (zlor b (zlshl 1 (r : Int))) = BitVec.ofInt 64 b ||| (1#64) <<< r := by
    rw [e1]
    show BitVec.ofInt 64 (BitVec.ofInt 64 b ||| BitVec.ofInt 64 _).toInt = _
    rw [BitVec.ofInt_toInt, BitVec.ofInt_toInt]
  rw [e2, BitVec.getLsbD_or, BitVec.getLsbD_shiftLeft, BitVec.getLsbD_one]
  simp [hj]
  constructor
  · rintro (q | q)
    · exact Or.inl q
    · exact Or.inr (by omega)
  · rintro (q | q)
    · exact Or.inl q
    · exact Or.inr (by omega)
theorem zlbt_0 {j : Nat} (hj : j < 64) : ¬ zlbt 0 j := by
  rw [zlbt_l hj]
  simp
/-- the holes in the class's cut, their order -/
def zUh (k : Nat) (w : List CuR) (I : ZI) : Prop := I k 13 = cuHc w ∧ ∀ p : Nat, p < cuHc w → I (k + 8) p = cuHv w p
theorem zUh_fr {k : Nat} {w : List CuR} {I I' : ZI} (h : zUh k w I) (hf : ∀ c j : Nat, (c = k ∧ j = 13) ∨ c = k + 8 → I' c j = I c j) : zUh k w I' := ⟨(hf k 13 (by omega)).trans h.1, fun p hp => (hf _ _ (by omega)).trans (h.2 p hp)⟩
def zUo (k : Nat) (w : List CuR) (I : ZI) : Prop := ∀ p : Nat, p < cuHc w → I (k + 9) p = cuOr w p
theorem zUo_fr {k : Nat} {w : List CuR} {I I' : ZI} (h : zUo k w I) (hf : ∀ c j : Nat, c = k + 9 → I' c j = I c j) : zUo k w I' := fun p hp => (hf _ _ rfl).trans (h p hp)
theorem cuHc_l {w : List CuR} (h : w.length ≤ 60) : cuHc w ≤ 60 := Nat.le_trans (zct_le _ _) h
theorem cuAs_v {x v : Int} (h1 : 0 ≤ x → v = x) (h2 : x < 0 → v = -x) : v = cuAs x := by
  unfold cuAs
  split <;> omega
/-- what is left of travels in a row -/
def zUt (k : Nat) (w : List CuR) (D : Nat) (I : ZI) : Prop := ∀ d l : Nat, D < d → d < 2 ^ cuHc w → l < cuHc w → I (k + 10) (8 * d + l) = cuTt w (cuHc w) d l
theorem zUt_fr {k D : Nat} {w : List CuR} {I I' : ZI} (h : zUt k w D I) (hf : ∀ c j : Nat, c = k + 10 → I' c j = I c j) : zUt k w D I' := fun d l h1 h2 h3 => (hf _ _ rfl).trans (h d l h1 h2 h3)
theorem cuHp8 {N : Nat} (h : N ≤ 8) : 1 ≤ 2 ^ N ∧ 2 ^ N ≤ 256 := ⟨Nat.two_pow_pos N, Nat.pow_le_pow_right (by decide) h⟩
