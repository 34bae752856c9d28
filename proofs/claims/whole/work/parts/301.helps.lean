/-! HELPS -/
theorem zRb {x : Int} (h : (decide (-2147483648 ≤ x) && decide (x ≤ 2147483647)) = true) : r32 x := by
  simp only [Bool.and_eq_true, decide_eq_true_eq] at h
  exact h
theorem zRL {x : Int} (h : (decide (-9223372036854775808 ≤ x) && decide (x ≤ 9223372036854775807)) = true) : r64 x := by
  simp only [Bool.and_eq_true, decide_eq_true_eq] at h
  exact h
theorem zr_and {x y : Int} : r32 (zand x y) := by
  have h1 := Int32.le_toInt (Int32.ofInt x &&& Int32.ofInt y)
  have h2 := Int32.toInt_lt (Int32.ofInt x &&& Int32.ofInt y)
  unfold zand
  omega
theorem zi2b_r {x : Int} : -128 ≤ zi2b x ∧ zi2b x < 128 := by
  have h1 := Int8.le_toInt (Int32.ofInt x).toInt8
  have h2 := Int8.toInt_lt (Int32.ofInt x).toInt8
  unfold zi2b
  rw [Int8.toInt_toInt32]
  omega
theorem zrd {x v : Int} {P : Int → Prop} (e : x = v) (g : P v) : ∀ u, u = x → r32 u → P u := fun u h _ => by rw [h, e]; exact g
theorem zrdR {x v : Option Nat} {P : Option Nat → Prop} (e : x = v) (g : P v) : ∀ u, u = x → P u := fun u h => by rw [h, e]; exact g
theorem zrdN {x v : Int} {P : Int → Prop} (e : x = v) (g : P v) : ∀ u, u = x → P u := fun u h => by rw [h, e]; exact g
def zcmp (c : ClassFile.Cond) (x y : Int) : Bool := match c with
  | .eq => decide (x = y)
  | .ne => !(decide (x = y))
  | .lt => decide (x < y)
  | .ge => decide (y ≤ x)
  | .gt => decide (y < x)
  | .le => decide (x ≤ y)
theorem zbt {c : ClassFile.Cond} {x y : Int} {A B : Prop} (h : zcmp c x y = true) (g : A) : zbr c x y A B := by
  cases c <;> unfold zcmp at h <;> simp at h <;> refine ⟨fun _ => g, fun q => absurd q (by omega)⟩
theorem zbf {c : ClassFile.Cond} {x y : Int} {A B : Prop} (h : zcmp c x y = false) (g : B) : zbr c x y A B := by
  cases c <;> unfold zcmp at h <;> simp at h <;> refine ⟨fun q => absurd q (by omega), fun _ => g⟩
theorem zu_o {α : Type} {f : Nat → Nat → α} {lo hi k' j' k j : Nat} {v : α} (h : (Nat.blt k lo || Nat.ble hi k) = true) (hk : (Nat.ble lo k' && Nat.blt k' hi) = true) : xu f k' j' v k j = f k j := by
  have h1 : k ≠ k' := by
    rw [Bool.or_eq_true] at h; rw [Bool.and_eq_true] at hk
    have h2 := Nat.le_of_ble_eq_true hk.1
    have h3 := Nat.le_of_ble_eq_true hk.2
    rcases h with h | h
    · have := Nat.le_of_ble_eq_true h; omega
    · have := Nat.le_of_ble_eq_true h; omega
  unfold xu; rw [if_neg h1]
theorem zx0 {k : Nat} (h : Nat.ble 40 k = true) : x0 ≤ k := Nat.le_of_ble_eq_true h
theorem zr_lor {x y : Int} : r64 (zlor x y) := by
  have h1 := Int64.le_toInt (Int64.ofInt x ||| Int64.ofInt y)
  have h2 := Int64.toInt_lt (Int64.ofInt x ||| Int64.ofInt y)
  unfold zlor
  omega
