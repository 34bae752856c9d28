/-! HELPS of calls on a fresh object -/
theorem zRb {x : Int} (h : (decide (-2147483648 ≤ x) && decide (x ≤ 2147483647)) = true) : r32 x := by
  simp only [Bool.and_eq_true, decide_eq_true_eq] at h
  exact h
theorem zRL {x : Int} (h : (decide (-9223372036854775808 ≤ x) && decide (x ≤ 9223372036854775807)) = true) : r64 x := by
  simp only [Bool.and_eq_true, decide_eq_true_eq] at h
  exact h
theorem zr_and {x y : Int} : r32 (zand x y) := by
  have h1 := Int32.le_toInt (Int32.ofInt x &&& Int32.ofInt y)
  have h2 := Int32.toInt_lt (Int32.ofInt x &&& Int32.ofInt y)
  unfold zand
  omega
theorem zi2b_r {x : Int} : -128 ≤ zi2b x ∧ zi2b x < 128 := by
  have h1 := Int8.le_toInt (Int32.ofInt x).toInt8
  have h2 := Int8.toInt_lt (Int32.ofInt x).toInt8
  unfold zi2b
  rw [Int8.toInt_toInt32]
  omega
theorem zrd {x v : Int} {P : Int → Prop} (e : x = v) (g : P v) : ∀ u, u = x → r32 u → P u := fun u h _ => by rw [h, e]; exact g
theorem zrdR {x v : Option Nat} {P : Option Nat → Prop} (e : x = v) (g : P v) : ∀ u, u = x → P u := fun u h => by rw [h, e]; exact g
theorem zrdN {x v : Int} {P : Int → Prop} (e : x = v) (g : P v) : ∀ u, u = x → P u := fun u h => by rw [h, e]; exact g
def zcmp (c : ClassFile.Cond) (x y : Int) : Bool := match c with
  | .eq => decide (x = y)
  | .ne => !(decide (x = y))
  | .lt => decide (x < y)
  | .ge => decide (y ≤ x)
  | .gt => decide (y < x)
  | .le => decide (x ≤ y)
theorem zbt {c : ClassFile.Cond} {x y : Int} {A B : Prop} (h : zcmp c x y = true) (g : A) : zbr c x y A B := by
  cases c <;> unfold zcmp at h <;> simp at h <;> refine ⟨fun _ => g, fun q => absurd q (by omega)⟩
theorem zbf {c : ClassFile.Cond} {x y : Int} {A B : Prop} (h : zcmp c x y = false) (g : B) : zbr c x y A B := by
  cases c <;> unfold zcmp at h <;> simp at h <;> refine ⟨fun q => absurd q (by omega), fun _ => g⟩
theorem zu_o {α : Type} {f : Nat → Nat → α} {lo hi k' j' k j : Nat} {v : α} (h : (Nat.blt k lo || Nat.ble hi k) = true) (hk : (Nat.ble lo k' && Nat.blt k' hi) = true) : xu f k' j' v k j = f k j := by
  have h1 : k ≠ k' := by
    rw [Bool.or_eq_true] at h; rw [Bool.and_eq_true] at hk
    have h2 := Nat.le_of_ble_eq_true hk.1
    have h3 := Nat.le_of_ble_eq_true hk.2
    rcases h with h | h
    · have := Nat.le_of_ble_eq_true h; omega
    · have := Nat.le_of_ble_eq_true h; omega
  unfold xu; rw [if_neg h1]
theorem zx0 {k : Nat} (h : Nat.ble 40 k = true) : x0 ≤ k := Nat.le_of_ble_eq_true h
/-- a side of the memory is as the constructors left it; all cells are there -/
def zFr (lo hi : Nat) (I L : ZI) (R : ZR) (S : ZS) : Prop := (S.2.1 = 302 ∧ ∀ k, Nat.ble 40 k = true → S.1 k = xsh xmB k) ∧ ∀ k, (Nat.ble lo k && Nat.blt k hi) = true → ∀ j, I k j = (xmB.1 k j).toInt ∧ L k j = (xmB.2.1 k j).toInt ∧ R k j = xmB.2.2.1 k j
def zEq (lo hi : Nat) (I L : ZI) (R : ZR) (I' L' : ZI) (R' : ZR) : Prop := (∀ k j, (Nat.blt k lo || Nat.ble hi k) = true → I' k j = I k j) ∧ (∀ k j, (Nat.blt k lo || Nat.ble hi k) = true → L' k j = L k j) ∧ ∀ k j, (Nat.blt k lo || Nat.ble hi k) = true → R' k j = R k j
section ZHP
variable {lo hi : Nat} {I L : ZI} {R : ZR} {S : ZS} {k t n j : Nat}
theorem zfI (hF : zFr lo hi I L R S) {v : Int} (h : (xmB.1 k j).toInt = v) (hk : (Nat.ble lo k && Nat.blt k hi) = true) : I k j = v := (hF.2 k hk j).1.trans h
theorem zfR (hF : zFr lo hi I L R S) {v : Option Nat} (h : xmB.2.2.1 k j = v) (hk : (Nat.ble lo k && Nat.blt k hi) = true) : R k j = v := (hF.2 k hk j).2.2.trans h
theorem zak (hF : zFr lo hi I L R S) (h : xsh xmB k = (t, n)) (h1 : (Nat.ble 40 k && Nat.blt k 302) = true) : xat S k t := by
  rw [Bool.and_eq_true] at h1
  exact ⟨Nat.le_of_ble_eq_true h1.1, by rw [hF.1.1]; exact Nat.le_of_ble_eq_true h1.2, by rw [hF.1.2 k h1.1, h]⟩
theorem zplk (hF : zFr lo hi I L R S) (h : xsh xmB k = (t, n)) (h1 : (Nat.ble 40 k && Nat.blt k 302) = true) {j : Int} (hj : (decide (0 ≤ j) && (decide (j < n) && decide (j ≤ 2147483647))) = true) : zpl S k t j := by
  rw [Bool.and_eq_true] at h1
  simp only [Bool.and_eq_true, decide_eq_true_eq] at hj
  have e : S.1 k = (t, n) := by rw [hF.1.2 k h1.1, h]
  exact ⟨by rw [hF.1.1]; exact Nat.le_of_ble_eq_true h1.2, by rw [e], hj.1, by rw [e]; exact hj.2.1, hj.2.2⟩
theorem zlnk (hF : zFr lo hi I L R S) (h : xsh xmB k = (t, n)) (h1 : (Nat.ble 40 k && Nat.blt k 302) = true) (h2 : Nat.ble 100 t = true) : k < S.2.1 ∧ 100 ≤ (S.1 k).1 := by
  rw [Bool.and_eq_true] at h1
  exact ⟨by rw [hF.1.1]; exact Nat.le_of_ble_eq_true h1.2, by rw [hF.1.2 k h1.1, h]; exact Nat.le_of_ble_eq_true h2⟩
theorem zlnv (hF : zFr lo hi I L R S) (h : xsh xmB k = (t, n)) (h1 : Nat.ble 40 k = true) : ((S.1 k).2 : Int) = n := by rw [hF.1.2 k h1, h]
end ZHP
theorem zr_lor {x y : Int} : r64 (zlor x y) := by
  have h1 := Int64.le_toInt (Int64.ofInt x ||| Int64.ofInt y)
  have h2 := Int64.toInt_lt (Int64.ofInt x ||| Int64.ofInt y)
  unfold zlor
  omega
/-- the other side after a call -/
theorem zFr_o {lo hi lo' hi' : Nat} {I L I' L' : ZI} {R R' : ZR} {S : ZS} (hF : zFr lo hi I L R S) (e : zEq lo' hi' I L R I' L' R') (h : (Nat.ble hi' lo || Nat.ble hi lo') = true) : zFr lo hi I' L' R' S := by
  refine ⟨hF.1, fun k hk j => ?_⟩
  have h1 : (Nat.blt k lo' || Nat.ble hi' k) = true := by
    rw [Bool.and_eq_true] at hk
    rw [Bool.or_eq_true] at h ⊢
    have h2 := Nat.le_of_ble_eq_true hk.1
    have h3 := Nat.le_of_ble_eq_true hk.2
    rcases h with h | h
    · exact .inr (Nat.ble_eq_true_of_le (Nat.le_trans (Nat.le_of_ble_eq_true h) h2))
    · exact .inl (Nat.ble_eq_true_of_le (Nat.le_trans h3 (Nat.le_of_ble_eq_true h)))
  rw [e.1 k j h1, e.2.1 k j h1, e.2.2 k j h1]
  exact hF.2 k hk j
/-- the script -/
theorem zp0 {lo hi L6 : Nat} {I L : ZI} {R : ZR} {S : ZS} (hF : zFr lo hi I L R S) (h0 : S.1 0 = (100, L6)) {j : Int} (hj : (decide (0 ≤ j) && (decide (j < L6) && decide (j ≤ 2147483647))) = true) : zpl S 0 100 j := by
  simp only [Bool.and_eq_true, decide_eq_true_eq] at hj
  exact ⟨by rw [hF.1.1]; decide, by rw [h0], hj.1, by rw [h0]; exact hj.2.1, hj.2.2⟩
theorem zln0 {lo hi L6 : Nat} {I L : ZI} {R : ZR} {S : ZS} (hF : zFr lo hi I L R S) (h0 : S.1 0 = (100, L6)) : 0 < S.2.1 ∧ 100 ≤ (S.1 0).1 := ⟨by rw [hF.1.1]; decide, by rw [h0]; exact Nat.le_refl 100⟩
theorem zlv0 {L6 : Nat} {S : ZS} (h0 : S.1 0 = (100, L6)) : ((S.1 0).2 : Int) = L6 := by rw [h0]
