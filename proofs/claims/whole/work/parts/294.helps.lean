/-! HELPS of steps -/
theorem xu_eq {α : Type} {f : Nat → Nat → α} {k j : Nat} {v : α} : xu f k j v k j = v := by unfold xu; rw [if_pos rfl, if_pos rfl]
theorem xu_a {α : Type} {f : Nat → Nat → α} {k j a b : Nat} {v x : α} (h : f a b = x) (hk : Nat.beq a k = false) : xu f k j v a b = x := by
  unfold xu; rw [if_neg (Nat.ne_of_beq_eq_false hk)]; exact h
theorem xu_b {α : Type} {f : Nat → Nat → α} {k j a b : Nat} {v x : α} (h : f a b = x) (hj : Nat.beq b j = false) : xu f k j v a b = x := by
  unfold xu; rw [if_neg (Nat.ne_of_beq_eq_false hj)]; split <;> exact h
theorem xu_o {α : Type} {f : Nat → Nat → α} {lo hi k' j' k j : Nat} {v : α} (h : (Nat.blt k lo || Nat.ble hi k) = true) (hk : (Nat.ble lo k' && Nat.blt k' hi) = true) : xu f k' j' v k j = f k j := by
  have h1 : k ≠ k' := by
    rw [Bool.or_eq_true] at h; rw [Bool.and_eq_true] at hk
    have h2 := Nat.le_of_ble_eq_true hk.1
    have h3 := Nat.le_of_ble_eq_true hk.2
    rcases h with h | h
    · have := Nat.le_of_ble_eq_true h; omega
    · have := Nat.le_of_ble_eq_true h; omega
  unfold xu; rw [if_neg h1]
def xagI (lo hi : Nat) (I : Nat → Nat → Int32) : Prop := ∀ k j, (Nat.ble lo k && Nat.blt k hi) = true → I k j = xmB.1 k j
def xagR (lo hi : Nat) (Rr : Nat → Nat → Option Nat) : Prop := ∀ k j, (Nat.ble lo k && Nat.blt k hi) = true → Rr k j = xmB.2.2.1 k j
def xSB (S : (Nat → Nat × Nat) × Nat × Nat) : Prop := S.2.1 = 302 ∧ ∀ k, Nat.ble 40 k = true → S.1 k = xsh xmB k
abbrev xPo1 (lo hi : Nat) (v : Value) (I : Nat → Nat → Int32) (Rr : Nat → Nat → Option Nat) (S : (Nat → Nat × Nat) × Nat × Nat) : Option Value → XM → Prop := fun o m' => o = some v ∧ (∀ k j, (Nat.blt k lo || Nat.ble hi k) = true → m'.1 k j = I k j) ∧ (∀ k j, (Nat.blt k lo || Nat.ble hi k) = true → m'.2.2.1 k j = Rr k j) ∧ m'.2.2.2 = S
section XHP
variable {S : (Nat → Nat × Nat) × Nat × Nat} {k t n : Nat}
theorem xlnk (hS : xSB S) (h : xsh xmB k = (t, n)) (h1 : (Nat.ble 40 k && Nat.blt k 302) = true) : k < S.2.1 ∧ S.1 k = (t, n) := by
  rw [Bool.and_eq_true] at h1
  exact ⟨by rw [hS.1]; exact Nat.le_of_ble_eq_true h1.2, by rw [hS.2 k h1.1]; exact h⟩
theorem xak1 (hS : xSB S) (h : xsh xmB k = (t, n)) (h1 : (Nat.ble 40 k && Nat.blt k 302) = true) : xat S k t := by
  obtain ⟨a, b⟩ := xlnk hS h h1
  rw [Bool.and_eq_true] at h1
  exact ⟨Nat.le_of_ble_eq_true h1.1, a, by rw [b]⟩
theorem xplk (hS : xSB S) (h : xsh xmB k = (t, n)) (h1 : (Nat.ble 40 k && Nat.blt k 302) = true) {j : Int32} {q : Nat} (hj : (xin j n && Nat.beq j.toNatClampNeg q) = true) : xpl S k t j q := by
  obtain ⟨a, b⟩ := xlnk hS h h1
  rw [Bool.and_eq_true] at hj
  exact ⟨a, by rw [b], by rw [b]; exact hj.1, Nat.eq_of_beq_eq_true hj.2⟩
variable {P : Nat → Nat → XRow} {d : Nat} {w w' : XRow} {r r' : List XI} {fall fall' : Nat} {lv lv' : List (Nat × Value)} {st rest : List Value} {Q : Option Value → XM → Prop} {x : XI} {m : XM}
theorem Y_ret1 {v : Value} (hr : xret w.2.2.2.2.1 x.2.1 st = some (some v)) (kk : Xr P (d + 1) w' r' fall' lv' (v :: rest) m Q) : Xr P d w (x :: r) fall lv st m (fun u m' => Xr P (d + 1) w' r' fall' lv' (u.toList ++ rest) m' Q) := X_ret hr kk
theorem Y_ret0 (hr : xret w.2.2.2.2.1 x.2.1 st = some none) (kk : Xr P (d + 1) w' r' fall' lv' rest m Q) : Xr P d w (x :: r) fall lv st m (fun u m' => Xr P (d + 1) w' r' fall' lv' (u.toList ++ rest) m' Q) := X_ret hr kk
theorem Y_wi {I : Nat → Nat → Int32} {L : Nat → Nat → Int64} {Rr : Nat → Nat → Option Nat} {y v : Int32} {j : Nat} {code : List XI} (h : y = v) (kk : Xr P d w code fall lv st (xu I k j v, L, Rr, S) Q) : Xr P d w code fall lv st (xu I k j y, L, Rr, S) Q := h ▸ kk
end XHP
section XCN
variable {x y : Int32}
theorem xc_lt_t (h : xcond .lt x y = true) : x.toInt < y.toInt := Int32.lt_iff_toInt_lt.mp (of_decide_eq_true h)
theorem xc_lt_f (h : xcond .lt x y = false) : y.toInt ≤ x.toInt := Int.not_lt.mp fun q => of_decide_eq_false h (Int32.lt_iff_toInt_lt.mpr q)
theorem xc_ge_t (h : xcond .ge x y = true) : y.toInt ≤ x.toInt := Int32.le_iff_toInt_le.mp (of_decide_eq_true h)
theorem xc_ge_f (h : xcond .ge x y = false) : x.toInt < y.toInt := Int.not_le.mp fun q => of_decide_eq_false h (Int32.le_iff_toInt_le.mpr q)
theorem xc_gt_t (h : xcond .gt x y = true) : y.toInt < x.toInt := Int32.lt_iff_toInt_lt.mp (of_decide_eq_true h)
theorem xc_gt_f (h : xcond .gt x y = false) : x.toInt ≤ y.toInt := Int.not_lt.mp fun q => of_decide_eq_false h (Int32.lt_iff_toInt_lt.mpr q)
theorem xc_le_t (h : xcond .le x y = true) : x.toInt ≤ y.toInt := Int32.le_iff_toInt_le.mp (of_decide_eq_true h)
theorem xc_le_f (h : xcond .le x y = false) : y.toInt < x.toInt := Int.not_le.mp fun q => of_decide_eq_false h (Int32.le_iff_toInt_le.mpr q)
theorem xc_eq_t (h : xcond .eq x y = true) : x.toInt = y.toInt := by rw [of_decide_eq_true h]
theorem xc_eq_f (h : xcond .eq x y = false) : x.toInt ≠ y.toInt := fun q => of_decide_eq_false h (Int32.toInt_inj.mp q)
theorem xc_ne_t (h : xcond .ne x y = true) : x.toInt ≠ y.toInt := fun q => by
  have h1 : (!(decide (x = y))) = true := h
  rw [decide_eq_true (Int32.toInt_inj.mp q)] at h1
  cases h1
theorem xc_ne_f (h : xcond .ne x y = false) : x.toInt = y.toInt := by
  have h1 : (!(decide (x = y))) = false := h
  rw [Bool.not_eq_false'] at h1
  rw [of_decide_eq_true h1]
theorem xbt {b : Bool} (h : b = false → False) : b = true := by cases b with
  | true => rfl
  | false => exact (h rfl).elim
theorem xbf {b : Bool} (h : b = true → False) : b = false := by cases b with
  | false => rfl
  | true => exact (h rfl).elim
theorem xc_lt_it (h : x.toInt < y.toInt) : xcond .lt x y = true := xbt fun q => by have := xc_lt_f q; omega
theorem xc_lt_if (h : y.toInt ≤ x.toInt) : xcond .lt x y = false := xbf fun q => by have := xc_lt_t q; omega
theorem xc_ge_it (h : y.toInt ≤ x.toInt) : xcond .ge x y = true := xbt fun q => by have := xc_ge_f q; omega
theorem xc_ge_if (h : x.toInt < y.toInt) : xcond .ge x y = false := xbf fun q => by have := xc_ge_t q; omega
theorem xc_gt_it (h : y.toInt < x.toInt) : xcond .gt x y = true := xbt fun q => by have := xc_gt_f q; omega
theorem xc_gt_if (h : x.toInt ≤ y.toInt) : xcond .gt x y = false := xbf fun q => by have := xc_gt_t q; omega
theorem xc_le_it (h : x.toInt ≤ y.toInt) : xcond .le x y = true := xbt fun q => by have := xc_le_f q; omega
theorem xc_le_if (h : y.toInt < x.toInt) : xcond .le x y = false := xbf fun q => by have := xc_le_t q; omega
theorem xc_eq_it (h : x.toInt = y.toInt) : xcond .eq x y = true := xbt fun q => xc_eq_f q h
theorem xc_eq_if (h : x.toInt ≠ y.toInt) : xcond .eq x y = false := xbf fun q => h (xc_eq_t q)
theorem xc_ne_it (h : x.toInt ≠ y.toInt) : xcond .ne x y = true := xbt fun q => h (xc_ne_f q)
theorem xc_ne_if (h : x.toInt = y.toInt) : xcond .ne x y = false := xbf fun q => xc_ne_t q h
end XCN
def xw0_0 : XRow := (0, xmn 0 0, (xmr 0 0).2.2.1, 11, (some .int), xk0_0)
theorem xe0_0 : xP 0 0 = xw0_0 := rfl
def xw0_2 : XRow := (0, xmn 0 2, (xmr 0 2).2.2.1, 5, (some .int), xk0_2)
theorem xe0_2 : xP 0 2 = xw0_2 := rfl
def xw0_4 : XRow := (0, xmn 0 4, (xmr 0 4).2.2.1, 5, (some .int), xk0_4)
theorem xe0_4 : xP 0 4 = xw0_4 := rfl
def xw0_12 : XRow := (0, xmn 0 12, (xmr 0 12).2.2.1, 2, (some .boolean), xk0_12)
theorem xe0_12 : xP 0 12 = xw0_12 := rfl
def xw0_28 : XRow := (0, xmn 0 28, (xmr 0 28).2.2.1, 5, (some .int), xk0_28)
theorem xe0_28 : xP 0 28 = xw0_28 := rfl
def xw2_2 : XRow := (2, xmn 2 2, (xmr 2 2).2.2.1, 2, none, xk2_2)
theorem xe2_2 : xP 2 2 = xw2_2 := rfl
def xw2_14 : XRow := (2, xmn 2 14, (xmr 2 14).2.2.1, 2, (some .boolean), xk2_14)
theorem xe2_14 : xP 2 14 = xw2_14 := rfl
def xw2_16 : XRow := (2, xmn 2 16, (xmr 2 16).2.2.1, 2, (some .int), xk2_16)
theorem xe2_16 : xP 2 16 = xw2_16 := rfl
def xw2_18 : XRow := (2, xmn 2 18, (xmr 2 18).2.2.1, 3, (some .long), xk2_18)
theorem xe2_18 : xP 2 18 = xw2_18 := rfl
def xw2_19 : XRow := (2, xmn 2 19, (xmr 2 19).2.2.1, 2, (some .int), xk2_19)
theorem xe2_19 : xP 2 19 = xw2_19 := rfl
def xw3_30 : XRow := (3, xmn 3 30, (xmr 3 30).2.2.1, 2, (some .int), xk3_30)
theorem xe3_30 : xP 3 30 = xw3_30 := rfl
def xw3_31 : XRow := (3, xmn 3 31, (xmr 3 31).2.2.1, 4, (some .int), xk3_31)
theorem xe3_31 : xP 3 31 = xw3_31 := rfl
def xw3_34 : XRow := (3, xmn 3 34, (xmr 3 34).2.2.1, 2, (some .int), xk3_34)
theorem xe3_34 : xP 3 34 = xw3_34 := rfl
def xw4_3 : XRow := (4, xmn 4 3, (xmr 4 3).2.2.1, 4, (some .int), xk4_3)
theorem xe4_3 : xP 4 3 = xw4_3 := rfl
def xw4_5 : XRow := (4, xmn 4 5, (xmr 4 5).2.2.1, 1, none, xk4_5)
theorem xe4_5 : xP 4 5 = xw4_5 := rfl
def xw4_9 : XRow := (4, xmn 4 9, (xmr 4 9).2.2.1, 2, (some .int), xk4_9)
theorem xe4_9 : xP 4 9 = xw4_9 := rfl
def xw4_13 : XRow := (4, xmn 4 13, (xmr 4 13).2.2.1, 3, (some .int), xk4_13)
theorem xe4_13 : xP 4 13 = xw4_13 := rfl
def xw4_15 : XRow := (4, xmn 4 15, (xmr 4 15).2.2.1, 1, (some .boolean), xk4_15)
theorem xe4_15 : xP 4 15 = xw4_15 := rfl
def xw4_27 : XRow := (4, xmn 4 27, (xmr 4 27).2.2.1, 2, none, xk4_27)
theorem xe4_27 : xP 4 27 = xw4_27 := rfl
def xw4_30 : XRow := (4, xmn 4 30, (xmr 4 30).2.2.1, 8, none, xk4_30)
theorem xe4_30 : xP 4 30 = xw4_30 := rfl
def xw5_4 : XRow := (5, xmn 5 4, (xmr 5 4).2.2.1, 6, (some .int), xk5_4)
theorem xe5_4 : xP 5 4 = xw5_4 := rfl
def xw5_10 : XRow := (5, xmn 5 10, (xmr 5 10).2.2.1, 3, (some .boolean), xk5_10)
theorem xe5_10 : xP 5 10 = xw5_10 := rfl
def xw5_11 : XRow := (5, xmn 5 11, (xmr 5 11).2.2.1, 2, (some .boolean), xk5_11)
theorem xe5_11 : xP 5 11 = xw5_11 := rfl
def xw5_14 : XRow := (5, xmn 5 14, (xmr 5 14).2.2.1, 2, (some .int), xk5_14)
theorem xe5_14 : xP 5 14 = xw5_14 := rfl
def xw5_18 : XRow := (5, xmn 5 18, (xmr 5 18).2.2.1, 2, (some .int), xk5_18)
theorem xe5_18 : xP 5 18 = xw5_18 := rfl
def xw5_19 : XRow := (5, xmn 5 19, (xmr 5 19).2.2.1, 4, (some .int), xk5_19)
theorem xe5_19 : xP 5 19 = xw5_19 := rfl
def xw5_22 : XRow := (5, xmn 5 22, (xmr 5 22).2.2.1, 3, (some .int), xk5_22)
theorem xe5_22 : xP 5 22 = xw5_22 := rfl
def xw5_23 : XRow := (5, xmn 5 23, (xmr 5 23).2.2.1, 5, (some .int), xk5_23)
theorem xe5_23 : xP 5 23 = xw5_23 := rfl
def xw5_24 : XRow := (5, xmn 5 24, (xmr 5 24).2.2.1, 2, (some .int), xk5_24)
theorem xe5_24 : xP 5 24 = xw5_24 := rfl
def xw7_0 : XRow := (7, xmn 7 0, (xmr 7 0).2.2.1, 7, (some .int), xk7_0)
theorem xe7_0 : xP 7 0 = xw7_0 := rfl
def xw7_1 : XRow := (7, xmn 7 1, (xmr 7 1).2.2.1, 4, (some .int), xk7_1)
theorem xe7_1 : xP 7 1 = xw7_1 := rfl
def xw7_2 : XRow := (7, xmn 7 2, (xmr 7 2).2.2.1, 1, (some .boolean), xk7_2)
theorem xe7_2 : xP 7 2 = xw7_2 := rfl
def xw8_3 : XRow := (8, xmn 8 3, (xmr 8 3).2.2.1, 4, (some .int), xk8_3)
theorem xe8_3 : xP 8 3 = xw8_3 := rfl
def xw8_10 : XRow := (8, xmn 8 10, (xmr 8 10).2.2.1, 2, (some .int), xk8_10)
theorem xe8_10 : xP 8 10 = xw8_10 := rfl
def xw8_20 : XRow := (8, xmn 8 20, (xmr 8 20).2.2.1, 4, none, xk8_20)
theorem xe8_20 : xP 8 20 = xw8_20 := rfl
def xw9_0 : XRow := (9, xmn 9 0, (xmr 9 0).2.2.1, 5, (some .int), xk9_0)
theorem xe9_0 : xP 9 0 = xw9_0 := rfl
def xw9_2 : XRow := (9, xmn 9 2, (xmr 9 2).2.2.1, 2, none, xk9_2)
theorem xe9_2 : xP 9 2 = xw9_2 := rfl
def xw9_3 : XRow := (9, xmn 9 3, (xmr 9 3).2.2.1, 5, (some .int), xk9_3)
theorem xe9_3 : xP 9 3 = xw9_3 := rfl
def xw9_14 : XRow := (9, xmn 9 14, (xmr 9 14).2.2.1, 1, (some .int), xk9_14)
theorem xe9_14 : xP 9 14 = xw9_14 := rfl
def xw9_16 : XRow := (9, xmn 9 16, (xmr 9 16).2.2.1, 6, (some .int), xk9_16)
theorem xe9_16 : xP 9 16 = xw9_16 := rfl
def xw9_17 : XRow := (9, xmn 9 17, (xmr 9 17).2.2.1, 3, none, xk9_17)
theorem xe9_17 : xP 9 17 = xw9_17 := rfl
def xw9_19 : XRow := (9, xmn 9 19, (xmr 9 19).2.2.1, 3, none, xk9_19)
theorem xe9_19 : xP 9 19 = xw9_19 := rfl
def xw9_20 : XRow := (9, xmn 9 20, (xmr 9 20).2.2.1, 4, (some .int), xk9_20)
theorem xe9_20 : xP 9 20 = xw9_20 := rfl
def xw9_25 : XRow := (9, xmn 9 25, (xmr 9 25).2.2.1, 1, none, xk9_25)
theorem xe9_25 : xP 9 25 = xw9_25 := rfl
def xw10_1 : XRow := (10, xmn 10 1, (xmr 10 1).2.2.1, 2, none, xk10_1)
theorem xe10_1 : xP 10 1 = xw10_1 := rfl
def xw10_3 : XRow := (10, xmn 10 3, (xmr 10 3).2.2.1, 6, (some .int), xk10_3)
theorem xe10_3 : xP 10 3 = xw10_3 := rfl
def xw10_5 : XRow := (10, xmn 10 5, (xmr 10 5).2.2.1, 2, (some .int), xk10_5)
theorem xe10_5 : xP 10 5 = xw10_5 := rfl
def xw10_6 : XRow := (10, xmn 10 6, (xmr 10 6).2.2.1, 3, (some .int), xk10_6)
theorem xe10_6 : xP 10 6 = xw10_6 := rfl
def xw10_10 : XRow := (10, xmn 10 10, (xmr 10 10).2.2.1, 2, (some .boolean), xk10_10)
theorem xe10_10 : xP 10 10 = xw10_10 := rfl
def xw10_12 : XRow := (10, xmn 10 12, (xmr 10 12).2.2.1, 8, (some .int), xk10_12)
theorem xe10_12 : xP 10 12 = xw10_12 := rfl
def xw10_13 : XRow := (10, xmn 10 13, (xmr 10 13).2.2.1, 2, (some .int), xk10_13)
theorem xe10_13 : xP 10 13 = xw10_13 := rfl
def xw10_14 : XRow := (10, xmn 10 14, (xmr 10 14).2.2.1, 7, (some .int), xk10_14)
theorem xe10_14 : xP 10 14 = xw10_14 := rfl
def xw10_18 : XRow := (10, xmn 10 18, (xmr 10 18).2.2.1, 4, (some .int), xk10_18)
theorem xe10_18 : xP 10 18 = xw10_18 := rfl
def xw10_21 : XRow := (10, xmn 10 21, (xmr 10 21).2.2.1, 1, (some .int), xk10_21)
theorem xe10_21 : xP 10 21 = xw10_21 := rfl
def xw11_0 : XRow := (11, xmn 11 0, (xmr 11 0).2.2.1, 4, (some .int), xk11_0)
theorem xe11_0 : xP 11 0 = xw11_0 := rfl
def xw11_1 : XRow := (11, xmn 11 1, (xmr 11 1).2.2.1, 2, (some .int), xk11_1)
theorem xe11_1 : xP 11 1 = xw11_1 := rfl
def xw11_2 : XRow := (11, xmn 11 2, (xmr 11 2).2.2.1, 4, (some .int), xk11_2)
theorem xe11_2 : xP 11 2 = xw11_2 := rfl
def xw11_3 : XRow := (11, xmn 11 3, (xmr 11 3).2.2.1, 4, (some .boolean), xk11_3)
theorem xe11_3 : xP 11 3 = xw11_3 := rfl
def xw11_4 : XRow := (11, xmn 11 4, (xmr 11 4).2.2.1, 3, (some .int), xk11_4)
theorem xe11_4 : xP 11 4 = xw11_4 := rfl
def xw11_5 : XRow := (11, xmn 11 5, (xmr 11 5).2.2.1, 6, (some .int), xk11_5)
theorem xe11_5 : xP 11 5 = xw11_5 := rfl
def xw11_6 : XRow := (11, xmn 11 6, (xmr 11 6).2.2.1, 5, (some .int), xk11_6)
theorem xe11_6 : xP 11 6 = xw11_6 := rfl
def xw11_7 : XRow := (11, xmn 11 7, (xmr 11 7).2.2.1, 2, (some .int), xk11_7)
theorem xe11_7 : xP 11 7 = xw11_7 := rfl
def xw11_8 : XRow := (11, xmn 11 8, (xmr 11 8).2.2.1, 6, (some .boolean), xk11_8)
theorem xe11_8 : xP 11 8 = xw11_8 := rfl
def xw11_9 : XRow := (11, xmn 11 9, (xmr 11 9).2.2.1, 2, (some .long), xk11_9)
theorem xe11_9 : xP 11 9 = xw11_9 := rfl
def xw11_10 : XRow := (11, xmn 11 10, (xmr 11 10).2.2.1, 2, (some .boolean), xk11_10)
theorem xe11_10 : xP 11 10 = xw11_10 := rfl
def xw11_11 : XRow := (11, xmn 11 11, (xmr 11 11).2.2.1, 2, (some .int), xk11_11)
theorem xe11_11 : xP 11 11 = xw11_11 := rfl
def xw11_12 : XRow := (11, xmn 11 12, (xmr 11 12).2.2.1, 2, (some .int), xk11_12)
theorem xe11_12 : xP 11 12 = xw11_12 := rfl
def xw11_13 : XRow := (11, xmn 11 13, (xmr 11 13).2.2.1, 3, (some .int), xk11_13)
theorem xe11_13 : xP 11 13 = xw11_13 := rfl
def xw11_14 : XRow := (11, xmn 11 14, (xmr 11 14).2.2.1, 2, (some .boolean), xk11_14)
theorem xe11_14 : xP 11 14 = xw11_14 := rfl
def xw11_15 : XRow := (11, xmn 11 15, (xmr 11 15).2.2.1, 2, (some .boolean), xk11_15)
theorem xe11_15 : xP 11 15 = xw11_15 := rfl
def xw11_16 : XRow := (11, xmn 11 16, (xmr 11 16).2.2.1, 2, (some .int), xk11_16)
theorem xe11_16 : xP 11 16 = xw11_16 := rfl
def xw11_17 : XRow := (11, xmn 11 17, (xmr 11 17).2.2.1, 1, (some .boolean), xk11_17)
theorem xe11_17 : xP 11 17 = xw11_17 := rfl
def xw11_18 : XRow := (11, xmn 11 18, (xmr 11 18).2.2.1, 1, (some .boolean), xk11_18)
theorem xe11_18 : xP 11 18 = xw11_18 := rfl
def xw11_19 : XRow := (11, xmn 11 19, (xmr 11 19).2.2.1, 2, (some .int), xk11_19)
theorem xe11_19 : xP 11 19 = xw11_19 := rfl
def xw11_20 : XRow := (11, xmn 11 20, (xmr 11 20).2.2.1, 6, (some .boolean), xk11_20)
theorem xe11_20 : xP 11 20 = xw11_20 := rfl
def xw11_21 : XRow := (11, xmn 11 21, (xmr 11 21).2.2.1, 3, none, xk11_21)
theorem xe11_21 : xP 11 21 = xw11_21 := rfl
def xw11_22 : XRow := (11, xmn 11 22, (xmr 11 22).2.2.1, 2, (some .boolean), xk11_22)
theorem xe11_22 : xP 11 22 = xw11_22 := rfl
def xw11_24 : XRow := (11, xmn 11 24, (xmr 11 24).2.2.1, 1, (some .boolean), xk11_24)
theorem xe11_24 : xP 11 24 = xw11_24 := rfl
def xw11_26 : XRow := (11, xmn 11 26, (xmr 11 26).2.2.1, 2, (some .int), xk11_26)
theorem xe11_26 : xP 11 26 = xw11_26 := rfl
def xw11_27 : XRow := (11, xmn 11 27, (xmr 11 27).2.2.1, 2, (some .int), xk11_27)
theorem xe11_27 : xP 11 27 = xw11_27 := rfl
def xw11_28 : XRow := (11, xmn 11 28, (xmr 11 28).2.2.1, 2, (some .int), xk11_28)
theorem xe11_28 : xP 11 28 = xw11_28 := rfl
def xw11_29 : XRow := (11, xmn 11 29, (xmr 11 29).2.2.1, 3, (some .int), xk11_29)
theorem xe11_29 : xP 11 29 = xw11_29 := rfl
def xw11_30 : XRow := (11, xmn 11 30, (xmr 11 30).2.2.1, 1, (some .int), xk11_30)
theorem xe11_30 : xP 11 30 = xw11_30 := rfl
def xw11_31 : XRow := (11, xmn 11 31, (xmr 11 31).2.2.1, 3, (some .long), xk11_31)
theorem xe11_31 : xP 11 31 = xw11_31 := rfl
def xw11_32 : XRow := (11, xmn 11 32, (xmr 11 32).2.2.1, 2, (some .long), xk11_32)
theorem xe11_32 : xP 11 32 = xw11_32 := rfl
def xw11_33 : XRow := (11, xmn 11 33, (xmr 11 33).2.2.1, 4, (some .int), xk11_33)
theorem xe11_33 : xP 11 33 = xw11_33 := rfl
def xw11_34 : XRow := (11, xmn 11 34, (xmr 11 34).2.2.1, 4, (some .int), xk11_34)
theorem xe11_34 : xP 11 34 = xw11_34 := rfl
def xw11_35 : XRow := (11, xmn 11 35, (xmr 11 35).2.2.1, 6, (some .int), xk11_35)
theorem xe11_35 : xP 11 35 = xw11_35 := rfl
def xw11_36 : XRow := (11, xmn 11 36, (xmr 11 36).2.2.1, 2, (some .int), xk11_36)
theorem xe11_36 : xP 11 36 = xw11_36 := rfl
def xw11_37 : XRow := (11, xmn 11 37, (xmr 11 37).2.2.1, 2, (some .int), xk11_37)
theorem xe11_37 : xP 11 37 = xw11_37 := rfl
def xw11_38 : XRow := (11, xmn 11 38, (xmr 11 38).2.2.1, 1, (some .int), xk11_38)
theorem xe11_38 : xP 11 38 = xw11_38 := rfl
def xw11_39 : XRow := (11, xmn 11 39, (xmr 11 39).2.2.1, 2, (some .int), xk11_39)
theorem xe11_39 : xP 11 39 = xw11_39 := rfl
def xw11_40 : XRow := (11, xmn 11 40, (xmr 11 40).2.2.1, 3, (some .int), xk11_40)
theorem xe11_40 : xP 11 40 = xw11_40 := rfl
def xw11_41 : XRow := (11, xmn 11 41, (xmr 11 41).2.2.1, 3, (some .int), xk11_41)
theorem xe11_41 : xP 11 41 = xw11_41 := rfl
def xw11_42 : XRow := (11, xmn 11 42, (xmr 11 42).2.2.1, 7, (some .int), xk11_42)
theorem xe11_42 : xP 11 42 = xw11_42 := rfl
def xw11_43 : XRow := (11, xmn 11 43, (xmr 11 43).2.2.1, 2, (some .int), xk11_43)
theorem xe11_43 : xP 11 43 = xw11_43 := rfl
def xw11_44 : XRow := (11, xmn 11 44, (xmr 11 44).2.2.1, 1, (some .int), xk11_44)
theorem xe11_44 : xP 11 44 = xw11_44 := rfl
def xw11_45 : XRow := (11, xmn 11 45, (xmr 11 45).2.2.1, 3, (some .int), xk11_45)
theorem xe11_45 : xP 11 45 = xw11_45 := rfl
def xw11_46 : XRow := (11, xmn 11 46, (xmr 11 46).2.2.1, 2, (some .int), xk11_46)
theorem xe11_46 : xP 11 46 = xw11_46 := rfl
def xw11_47 : XRow := (11, xmn 11 47, (xmr 11 47).2.2.1, 5, (some .int), xk11_47)
theorem xe11_47 : xP 11 47 = xw11_47 := rfl
def xw11_48 : XRow := (11, xmn 11 48, (xmr 11 48).2.2.1, 1, (some .int), xk11_48)
theorem xe11_48 : xP 11 48 = xw11_48 := rfl
def xw11_50 : XRow := (11, xmn 11 50, (xmr 11 50).2.2.1, 1, (some .int), xk11_50)
theorem xe11_50 : xP 11 50 = xw11_50 := rfl
def xw11_51 : XRow := (11, xmn 11 51, (xmr 11 51).2.2.1, 5, (some .int), xk11_51)
theorem xe11_51 : xP 11 51 = xw11_51 := rfl
def xw11_52 : XRow := (11, xmn 11 52, (xmr 11 52).2.2.1, 1, (some .int), xk11_52)
theorem xe11_52 : xP 11 52 = xw11_52 := rfl
def xw11_53 : XRow := (11, xmn 11 53, (xmr 11 53).2.2.1, 3, (some .int), xk11_53)
theorem xe11_53 : xP 11 53 = xw11_53 := rfl
def xw11_54 : XRow := (11, xmn 11 54, (xmr 11 54).2.2.1, 1, (some .int), xk11_54)
theorem xe11_54 : xP 11 54 = xw11_54 := rfl
def xw11_55 : XRow := (11, xmn 11 55, (xmr 11 55).2.2.1, 4, (some .int), xk11_55)
theorem xe11_55 : xP 11 55 = xw11_55 := rfl
def xw11_56 : XRow := (11, xmn 11 56, (xmr 11 56).2.2.1, 2, (some .boolean), xk11_56)
theorem xe11_56 : xP 11 56 = xw11_56 := rfl
def xw11_58 : XRow := (11, xmn 11 58, (xmr 11 58).2.2.1, 2, (some .int), xk11_58)
theorem xe11_58 : xP 11 58 = xw11_58 := rfl
def xw12_2 : XRow := (12, xmn 12 2, (xmr 12 2).2.2.1, 2, (some .int), xk12_2)
theorem xe12_2 : xP 12 2 = xw12_2 := rfl
def xw12_15 : XRow := (12, xmn 12 15, (xmr 12 15).2.2.1, 2, (some .int), xk12_15)
theorem xe12_15 : xP 12 15 = xw12_15 := rfl
def xw12_18 : XRow := (12, xmn 12 18, (xmr 12 18).2.2.1, 2, none, xk12_18)
theorem xe12_18 : xP 12 18 = xw12_18 := rfl
def xw12_34 : XRow := (12, xmn 12 34, (xmr 12 34).2.2.1, 4, (some .int), xk12_34)
theorem xe12_34 : xP 12 34 = xw12_34 := rfl
def xw12_35 : XRow := (12, xmn 12 35, (xmr 12 35).2.2.1, 2, (some .int), xk12_35)
theorem xe12_35 : xP 12 35 = xw12_35 := rfl
def xw12_39 : XRow := (12, xmn 12 39, (xmr 12 39).2.2.1, 3, (some .int), xk12_39)
theorem xe12_39 : xP 12 39 = xw12_39 := rfl
def xw12_48 : XRow := (12, xmn 12 48, (xmr 12 48).2.2.1, 3, (some .int), xk12_48)
theorem xe12_48 : xP 12 48 = xw12_48 := rfl
def xw12_53 : XRow := (12, xmn 12 53, (xmr 12 53).2.2.1, 1, (some .int), xk12_53)
theorem xe12_53 : xP 12 53 = xw12_53 := rfl
def xw12_55 : XRow := (12, xmn 12 55, (xmr 12 55).2.2.1, 3, none, xk12_55)
theorem xe12_55 : xP 12 55 = xw12_55 := rfl
def xw13_3 : XRow := (13, xmn 13 3, (xmr 13 3).2.2.1, 4, (some .boolean), xk13_3)
theorem xe13_3 : xP 13 3 = xw13_3 := rfl
def xw13_8 : XRow := (13, xmn 13 8, (xmr 13 8).2.2.1, 2, (some .boolean), xk13_8)
theorem xe13_8 : xP 13 8 = xw13_8 := rfl
def xw13_9 : XRow := (13, xmn 13 9, (xmr 13 9).2.2.1, 2, (some .boolean), xk13_9)
theorem xe13_9 : xP 13 9 = xw13_9 := rfl
def xw13_10 : XRow := (13, xmn 13 10, (xmr 13 10).2.2.1, 6, (some .int), xk13_10)
theorem xe13_10 : xP 13 10 = xw13_10 := rfl
def xw13_13 : XRow := (13, xmn 13 13, (xmr 13 13).2.2.1, 2, (some .int), xk13_13)
theorem xe13_13 : xP 13 13 = xw13_13 := rfl
def xw13_14 : XRow := (13, xmn 13 14, (xmr 13 14).2.2.1, 2, none, xk13_14)
theorem xe13_14 : xP 13 14 = xw13_14 := rfl
def xw13_15 : XRow := (13, xmn 13 15, (xmr 13 15).2.2.1, 1, (some .int), xk13_15)
theorem xe13_15 : xP 13 15 = xw13_15 := rfl
def xw13_17 : XRow := (13, xmn 13 17, (xmr 13 17).2.2.1, 1, none, xk13_17)
theorem xe13_17 : xP 13 17 = xw13_17 := rfl
def xw13_18 : XRow := (13, xmn 13 18, (xmr 13 18).2.2.1, 2, none, xk13_18)
theorem xe13_18 : xP 13 18 = xw13_18 := rfl
def xw19_0 : XRow := (19, xmn 19 0, (xmr 19 0).2.2.1, 4, (some .int), xk19_0)
theorem xe19_0 : xP 19 0 = xw19_0 := rfl
def xw19_17 : XRow := (19, xmn 19 17, (xmr 19 17).2.2.1, 3, (some .boolean), xk19_17)
theorem xe19_17 : xP 19 17 = xw19_17 := rfl
def xw19_18 : XRow := (19, xmn 19 18, (xmr 19 18).2.2.1, 2, (some .boolean), xk19_18)
theorem xe19_18 : xP 19 18 = xw19_18 := rfl
def xw19_24 : XRow := (19, xmn 19 24, (xmr 19 24).2.2.1, 7, (some .int), xk19_24)
theorem xe19_24 : xP 19 24 = xw19_24 := rfl
def xw19_27 : XRow := (19, xmn 19 27, (xmr 19 27).2.2.1, 3, (some .int), xk19_27)
theorem xe19_27 : xP 19 27 = xw19_27 := rfl
def xw19_33 : XRow := (19, xmn 19 33, (xmr 19 33).2.2.1, 1, (some .int), xk19_33)
theorem xe19_33 : xP 19 33 = xw19_33 := rfl
def xw19_35 : XRow := (19, xmn 19 35, (xmr 19 35).2.2.1, 2, (some .int), xk19_35)
theorem xe19_35 : xP 19 35 = xw19_35 := rfl
def xw21_0 : XRow := (21, xmn 21 0, (xmr 21 0).2.2.1, 5, (some .int), xk21_0)
theorem xe21_0 : xP 21 0 = xw21_0 := rfl
def xw21_1 : XRow := (21, xmn 21 1, (xmr 21 1).2.2.1, 5, (some .int), xk21_1)
theorem xe21_1 : xP 21 1 = xw21_1 := rfl
def xw21_2 : XRow := (21, xmn 21 2, (xmr 21 2).2.2.1, 4, (some .boolean), xk21_2)
theorem xe21_2 : xP 21 2 = xw21_2 := rfl
def xw21_3 : XRow := (21, xmn 21 3, (xmr 21 3).2.2.1, 4, (some .int), xk21_3)
theorem xe21_3 : xP 21 3 = xw21_3 := rfl
def xw21_4 : XRow := (21, xmn 21 4, (xmr 21 4).2.2.1, 6, (some .int), xk21_4)
theorem xe21_4 : xP 21 4 = xw21_4 := rfl
def xw21_5 : XRow := (21, xmn 21 5, (xmr 21 5).2.2.1, 8, (some .int), xk21_5)
theorem xe21_5 : xP 21 5 = xw21_5 := rfl
def xw21_6 : XRow := (21, xmn 21 6, (xmr 21 6).2.2.1, 3, (some .int), xk21_6)
theorem xe21_6 : xP 21 6 = xw21_6 := rfl
def xw21_7 : XRow := (21, xmn 21 7, (xmr 21 7).2.2.1, 6, (some .boolean), xk21_7)
theorem xe21_7 : xP 21 7 = xw21_7 := rfl
def xw21_8 : XRow := (21, xmn 21 8, (xmr 21 8).2.2.1, 4, (some .long), xk21_8)
theorem xe21_8 : xP 21 8 = xw21_8 := rfl
def xw21_9 : XRow := (21, xmn 21 9, (xmr 21 9).2.2.1, 3, (some .boolean), xk21_9)
theorem xe21_9 : xP 21 9 = xw21_9 := rfl
def xw21_10 : XRow := (21, xmn 21 10, (xmr 21 10).2.2.1, 3, (some .int), xk21_10)
theorem xe21_10 : xP 21 10 = xw21_10 := rfl
def xw21_11 : XRow := (21, xmn 21 11, (xmr 21 11).2.2.1, 2, (some .int), xk21_11)
theorem xe21_11 : xP 21 11 = xw21_11 := rfl
def xw21_12 : XRow := (21, xmn 21 12, (xmr 21 12).2.2.1, 2, (some .int), xk21_12)
theorem xe21_12 : xP 21 12 = xw21_12 := rfl
def xw21_14 : XRow := (21, xmn 21 14, (xmr 21 14).2.2.1, 3, (some .int), xk21_14)
theorem xe21_14 : xP 21 14 = xw21_14 := rfl
def xw21_15 : XRow := (21, xmn 21 15, (xmr 21 15).2.2.1, 2, (some .boolean), xk21_15)
theorem xe21_15 : xP 21 15 = xw21_15 := rfl
def xw21_16 : XRow := (21, xmn 21 16, (xmr 21 16).2.2.1, 2, (some .boolean), xk21_16)
theorem xe21_16 : xP 21 16 = xw21_16 := rfl
def xw21_17 : XRow := (21, xmn 21 17, (xmr 21 17).2.2.1, 3, (some .int), xk21_17)
theorem xe21_17 : xP 21 17 = xw21_17 := rfl
def xw21_18 : XRow := (21, xmn 21 18, (xmr 21 18).2.2.1, 1, (some .boolean), xk21_18)
theorem xe21_18 : xP 21 18 = xw21_18 := rfl
def xw21_20 : XRow := (21, xmn 21 20, (xmr 21 20).2.2.1, 5, (some .boolean), xk21_20)
theorem xe21_20 : xP 21 20 = xw21_20 := rfl
def xw21_21 : XRow := (21, xmn 21 21, (xmr 21 21).2.2.1, 6, (some .boolean), xk21_21)
theorem xe21_21 : xP 21 21 = xw21_21 := rfl
def xw21_33 : XRow := (21, xmn 21 33, (xmr 21 33).2.2.1, 3, (some .int), xk21_33)
theorem xe21_33 : xP 21 33 = xw21_33 := rfl
def xw21_34 : XRow := (21, xmn 21 34, (xmr 21 34).2.2.1, 3, none, xk21_34)
theorem xe21_34 : xP 21 34 = xw21_34 := rfl
def xw21_36 : XRow := (21, xmn 21 36, (xmr 21 36).2.2.1, 5, (some .int), xk21_36)
theorem xe21_36 : xP 21 36 = xw21_36 := rfl
def xw21_37 : XRow := (21, xmn 21 37, (xmr 21 37).2.2.1, 3, (some .int), xk21_37)
theorem xe21_37 : xP 21 37 = xw21_37 := rfl
def xw21_38 : XRow := (21, xmn 21 38, (xmr 21 38).2.2.1, 4, (some .int), xk21_38)
theorem xe21_38 : xP 21 38 = xw21_38 := rfl
def xw21_39 : XRow := (21, xmn 21 39, (xmr 21 39).2.2.1, 1, (some .int), xk21_39)
theorem xe21_39 : xP 21 39 = xw21_39 := rfl
def xw21_41 : XRow := (21, xmn 21 41, (xmr 21 41).2.2.1, 5, (some .long), xk21_41)
theorem xe21_41 : xP 21 41 = xw21_41 := rfl
def xw21_42 : XRow := (21, xmn 21 42, (xmr 21 42).2.2.1, 3, (some .long), xk21_42)
theorem xe21_42 : xP 21 42 = xw21_42 := rfl
def xw21_44 : XRow := (21, xmn 21 44, (xmr 21 44).2.2.1, 3, (some .int), xk21_44)
theorem xe21_44 : xP 21 44 = xw21_44 := rfl
def xw21_45 : XRow := (21, xmn 21 45, (xmr 21 45).2.2.1, 5, (some .int), xk21_45)
theorem xe21_45 : xP 21 45 = xw21_45 := rfl
def xw21_46 : XRow := (21, xmn 21 46, (xmr 21 46).2.2.1, 8, (some .int), xk21_46)
theorem xe21_46 : xP 21 46 = xw21_46 := rfl
def xw21_47 : XRow := (21, xmn 21 47, (xmr 21 47).2.2.1, 2, (some .int), xk21_47)
theorem xe21_47 : xP 21 47 = xw21_47 := rfl
def xw21_48 : XRow := (21, xmn 21 48, (xmr 21 48).2.2.1, 2, (some .boolean), xk21_48)
theorem xe21_48 : xP 21 48 = xw21_48 := rfl
def xw21_49 : XRow := (21, xmn 21 49, (xmr 21 49).2.2.1, 4, (some .int), xk21_49)
theorem xe21_49 : xP 21 49 = xw21_49 := rfl
def xw21_50 : XRow := (21, xmn 21 50, (xmr 21 50).2.2.1, 2, (some .int), xk21_50)
theorem xe21_50 : xP 21 50 = xw21_50 := rfl
def xw21_51 : XRow := (21, xmn 21 51, (xmr 21 51).2.2.1, 1, (some .int), xk21_51)
theorem xe21_51 : xP 21 51 = xw21_51 := rfl
def xw21_53 : XRow := (21, xmn 21 53, (xmr 21 53).2.2.1, 7, (some .int), xk21_53)
theorem xe21_53 : xP 21 53 = xw21_53 := rfl
def xw21_54 : XRow := (21, xmn 21 54, (xmr 21 54).2.2.1, 4, (some .int), xk21_54)
theorem xe21_54 : xP 21 54 = xw21_54 := rfl
def xw21_55 : XRow := (21, xmn 21 55, (xmr 21 55).2.2.1, 3, (some .int), xk21_55)
theorem xe21_55 : xP 21 55 = xw21_55 := rfl
def xw21_58 : XRow := (21, xmn 21 58, (xmr 21 58).2.2.1, 6, (some .int), xk21_58)
theorem xe21_58 : xP 21 58 = xw21_58 := rfl
def xw21_59 : XRow := (21, xmn 21 59, (xmr 21 59).2.2.1, 3, (some .int), xk21_59)
theorem xe21_59 : xP 21 59 = xw21_59 := rfl
def xw21_62 : XRow := (21, xmn 21 62, (xmr 21 62).2.2.1, 3, (some .int), xk21_62)
theorem xe21_62 : xP 21 62 = xw21_62 := rfl
def xw21_63 : XRow := (21, xmn 21 63, (xmr 21 63).2.2.1, 4, (some .int), xk21_63)
theorem xe21_63 : xP 21 63 = xw21_63 := rfl
def xw21_68 : XRow := (21, xmn 21 68, (xmr 21 68).2.2.1, 3, (some .int), xk21_68)
theorem xe21_68 : xP 21 68 = xw21_68 := rfl
def xw21_70 : XRow := (21, xmn 21 70, (xmr 21 70).2.2.1, 5, (some .int), xk21_70)
theorem xe21_70 : xP 21 70 = xw21_70 := rfl
def xw21_71 : XRow := (21, xmn 21 71, (xmr 21 71).2.2.1, 1, (some .int), xk21_71)
theorem xe21_71 : xP 21 71 = xw21_71 := rfl
def xw21_72 : XRow := (21, xmn 21 72, (xmr 21 72).2.2.1, 1, (some .int), xk21_72)
theorem xe21_72 : xP 21 72 = xw21_72 := rfl
def xw21_74 : XRow := (21, xmn 21 74, (xmr 21 74).2.2.1, 1, (some .int), xk21_74)
theorem xe21_74 : xP 21 74 = xw21_74 := rfl
def xw21_75 : XRow := (21, xmn 21 75, (xmr 21 75).2.2.1, 4, (some .int), xk21_75)
theorem xe21_75 : xP 21 75 = xw21_75 := rfl
def xw21_76 : XRow := (21, xmn 21 76, (xmr 21 76).2.2.1, 1, (some .int), xk21_76)
theorem xe21_76 : xP 21 76 = xw21_76 := rfl
def xw21_77 : XRow := (21, xmn 21 77, (xmr 21 77).2.2.1, 5, (some .int), xk21_77)
theorem xe21_77 : xP 21 77 = xw21_77 := rfl
def xw21_79 : XRow := (21, xmn 21 79, (xmr 21 79).2.2.1, 3, (some .boolean), xk21_79)
theorem xe21_79 : xP 21 79 = xw21_79 := rfl
def xw21_80 : XRow := (21, xmn 21 80, (xmr 21 80).2.2.1, 2, (some .int), xk21_80)
theorem xe21_80 : xP 21 80 = xw21_80 := rfl
theorem xf0_0_0 : xfind xw0_0.2.2.2.2.2 0 = ([(0, .aload_n 0, 0, 0, 0), (1, .getfield 9, 0, 0, 0), (4, .iconst (-1), 0, 0, 0), (5, .if_icmp .ne 6, 0, 0, 0), (8, .bipush (-3), 0, 0, 0), (10, .ireturn, 0, 0, 0)], 11) := rfl
theorem xf0_2_0 : xfind xw0_2.2.2.2.2.2 0 = ([(0, .aload_n 0, 0, 0, 0), (1, .getfield 9, 0, 0, 0), (4, .iconst (-1), 0, 0, 0), (5, .if_icmp .ne 6, 0, 0, 0), (8, .bipush (-3), 0, 0, 0), (10, .ireturn, 0, 0, 0)], 11) := rfl
theorem xf0_4_0 : xfind xw0_4.2.2.2.2.2 0 = ([(0, .iload_n 1, 0, 0, 0), (1, .ifCond .lt 14, 0, 0, 0), (4, .iload_n 1, 0, 0, 0), (5, .aload_n 0, 0, 0, 0), (6, .getfield 50, 0, 90, 0), (9, .getfield 75, 7, 16, 0), (12, .if_icmp .lt 5, 0, 0, 0)], 15) := rfl
theorem xf0_4_15 : xfind xw0_4.2.2.2.2.2 15 = ([(15, .iconst (-1), 0, 0, 0), (16, .ireturn, 0, 0, 0)], 17) := rfl
theorem xf0_12_0 : xfind xw0_12.2.2.2.2.2 0 = ([(0, .aload_n 0, 0, 0, 0), (1, .getfield 50, 0, 90, 0), (4, .iload_n 1, 0, 0, 0), (5, .iconst 2, 0, 0, 0), (6, .invokevirtual 129, 7, 66, 0), (9, .iconst 1, 0, 0, 0), (10, .if_icmp .ne 7, 0, 0, 0), (13, .iconst 1, 0, 0, 0), (14, .goto 4, 0, 0, 0)], 17) := rfl
theorem xf0_12_17 : xfind xw0_12.2.2.2.2.2 17 = ([(17, .iconst 0, 0, 0, 0)], 18) := rfl
theorem xf0_12_18 : xfind xw0_12.2.2.2.2.2 18 = ([(18, .ireturn, 0, 0, 0)], 19) := rfl
theorem xf0_28_0 : xfind xw0_28.2.2.2.2.2 0 = ([(0, .aload_n 0, 0, 0, 0), (1, .iload_n 1, 0, 0, 0), (2, .invokevirtual 139, 0, 769, 0), (5, .ifCond .eq 12, 0, 0, 0), (8, .aload_n 0, 0, 0, 0), (9, .iload_n 1, 0, 0, 0), (10, .iload_n 2, 0, 0, 0), (11, .invokevirtual 149, 0, 1666, 0), (14, .goto 4, 0, 0, 0)], 17) := rfl
theorem xf0_28_17 : xfind xw0_28.2.2.2.2.2 17 = ([(17, .iconst (-1), 0, 0, 0)], 18) := rfl
theorem xf0_28_18 : xfind xw0_28.2.2.2.2.2 18 = ([(18, .istore 4, 0, 0, 0), (20, .iload 4, 0, 0, 0), (22, .iconst (-1), 0, 0, 0), (23, .if_icmp .ne 5, 0, 0, 0), (26, .iconst (-1), 0, 0, 0), (27, .ireturn, 0, 0, 0)], 28) := rfl
theorem xf2_2_0 : xfind xw2_2.2.2.2.2.2 0 = ([(0, .aload_n 0, 0, 0, 0), (1, .iload_n 1, 0, 0, 0), (2, .putfield 76, 2, 8, 0), (5, .aload_n 0, 0, 0, 0), (6, .iconst 0, 0, 0, 0), (7, .putfield 80, 2, 0, 0), (10, .aload_n 0, 0, 0, 0), (11, .iconst 0, 0, 0, 0), (12, .putfield 83, 2, 16, 0), (15, .aload_n 0, 0, 0, 0), (16, .iconst 0, 0, 0, 0), (17, .putfield 86, 2, 80, 0), (20, .return_, 0, 0, 0)], 21) := rfl
theorem xf2_14_0 : xfind xw2_14.2.2.2.2.2 0 = ([(0, .iload_n 1, 0, 0, 0), (1, .ifCond .lt 15, 0, 0, 0), (4, .iload_n 1, 0, 0, 0), (5, .aload_n 0, 0, 0, 0), (6, .getfield 80, 2, 0, 0), (9, .if_icmp .ge 7, 0, 0, 0), (12, .iconst 1, 0, 0, 0), (13, .goto 4, 0, 0, 0)], 16) := rfl
theorem xf2_14_16 : xfind xw2_14.2.2.2.2.2 16 = ([(16, .iconst 0, 0, 0, 0)], 17) := rfl
theorem xf2_14_17 : xfind xw2_14.2.2.2.2.2 17 = ([(17, .ireturn, 0, 0, 0)], 18) := rfl
theorem xf2_16_0 : xfind xw2_16.2.2.2.2.2 0 = ([(0, .aload_n 0, 0, 0, 0), (1, .iload_n 1, 0, 0, 0), (2, .invokevirtual 95, 2, 897, 0), (5, .ifCond .eq 12, 0, 0, 0), (8, .aload_n 0, 0, 0, 0), (9, .getfield 11, 2, 26, 0), (12, .iload_n 1, 0, 0, 0), (13, .iaload, 0, 0, 0), (14, .goto 4, 0, 0, 0)], 17) := rfl
theorem xf2_16_17 : xfind xw2_16.2.2.2.2.2 17 = ([(17, .iconst (-1), 0, 0, 0)], 18) := rfl
theorem xf2_16_18 : xfind xw2_16.2.2.2.2.2 18 = ([(18, .ireturn, 0, 0, 0)], 19) := rfl
theorem xf2_18_0 : xfind xw2_18.2.2.2.2.2 0 = ([(0, .iload_n 2, 0, 0, 0), (1, .ifCond .lt 29, 0, 0, 0), (4, .iload_n 2, 0, 0, 0), (5, .iconst 5, 0, 0, 0), (6, .if_icmp .ge 24, 0, 0, 0), (9, .aload_n 0, 0, 0, 0), (10, .iload_n 1, 0, 0, 0), (11, .invokevirtual 95, 2, 897, 0), (14, .ifCond .eq 16, 0, 0, 0), (17, .aload_n 0, 0, 0, 0), (18, .getfield 21, 2, 50, 0), (21, .iload_n 1, 0, 0, 0), (22, .iconst 5, 0, 0, 0), (23, .imul, 0, 0, 0), (24, .iload_n 2, 0, 0, 0), (25, .iadd, 0, 0, 0), (26, .laload, 0, 0, 0), (27, .goto 4, 0, 0, 0)], 30) := rfl
theorem xf2_18_30 : xfind xw2_18.2.2.2.2.2 30 = ([(30, .lconst 0, 0, 0, 0)], 31) := rfl
theorem xf2_18_31 : xfind xw2_18.2.2.2.2.2 31 = ([(31, .lreturn, 0, 0, 0)], 32) := rfl
theorem xf2_19_0 : xfind xw2_19.2.2.2.2.2 0 = ([(0, .iload_n 1, 0, 0, 0), (1, .ifCond .lt 20, 0, 0, 0), (4, .iload_n 1, 0, 0, 0), (5, .aload_n 0, 0, 0, 0), (6, .getfield 129, 2, 96, 0), (9, .if_icmp .ge 12, 0, 0, 0), (12, .aload_n 0, 0, 0, 0), (13, .getfield 35, 2, 90, 0), (16, .iload_n 1, 0, 0, 0), (17, .caload, 0, 0, 0), (18, .goto 4, 0, 0, 0)], 21) := rfl
theorem xf2_19_21 : xfind xw2_19.2.2.2.2.2 21 = ([(21, .iconst (-1), 0, 0, 0)], 22) := rfl
theorem xf2_19_22 : xfind xw2_19.2.2.2.2.2 22 = ([(22, .ireturn, 0, 0, 0)], 23) := rfl
theorem xf3_30_0 : xfind xw3_30.2.2.2.2.2 0 = ([(0, .iload_n 1, 0, 0, 0), (1, .ifCond .lt 20, 0, 0, 0), (4, .iload_n 1, 0, 0, 0), (5, .aload_n 0, 0, 0, 0), (6, .getfield 72, 3, 112, 0), (9, .if_icmp .ge 12, 0, 0, 0), (12, .aload_n 0, 0, 0, 0), (13, .getfield 50, 3, 90, 0), (16, .iload_n 1, 0, 0, 0), (17, .iaload, 0, 0, 0), (18, .goto 6, 0, 0, 0)], 21) := rfl
theorem xf3_30_21 : xfind xw3_30.2.2.2.2.2 21 = ([(21, .sipush (-1000), 0, 0, 0)], 24) := rfl
theorem xf3_30_24 : xfind xw3_30.2.2.2.2.2 24 = ([(24, .ireturn, 0, 0, 0)], 25) := rfl
theorem xf3_31_0 : xfind xw3_31.2.2.2.2.2 0 = ([(0, .iload_n 1, 0, 0, 0), (1, .ifCond .lt 18, 0, 0, 0), (4, .iload_n 1, 0, 0, 0), (5, .aload_n 0, 0, 0, 0), (6, .getfield 41, 3, 66, 0), (9, .getfield 60, 7, 16, 0), (12, .if_icmp .ge 7, 0, 0, 0), (15, .iconst 1, 0, 0, 0), (16, .goto 4, 0, 0, 0)], 19) := rfl
theorem xf3_31_19 : xfind xw3_31.2.2.2.2.2 19 = ([(19, .iconst 0, 0, 0, 0)], 20) := rfl
theorem xf3_31_20 : xfind xw3_31.2.2.2.2.2 20 = ([(20, .istore_n 3, 0, 0, 0), (21, .iload_n 3, 0, 0, 0), (22, .ifCond .eq 38, 0, 0, 0), (25, .iload_n 2, 0, 0, 0), (26, .ifCond .lt 34, 0, 0, 0), (29, .iload_n 2, 0, 0, 0), (30, .aload_n 0, 0, 0, 0), (31, .aload_n 0, 0, 0, 0), (32, .getfield 41, 3, 66, 0), (35, .iload_n 1, 0, 0, 0), (36, .iconst 0, 0, 0, 0), (37, .invokevirtual 64, 7, 66, 0), (40, .invokevirtual 68, 3, 321, 0), (43, .if_icmp .ge 17, 0, 0, 0), (46, .aload_n 0, 0, 0, 0), (47, .getfield 47, 3, 82, 0), (50, .iload_n 1, 0, 0, 0), (51, .bipush 16, 0, 0, 0), (53, .imul, 0, 0, 0), (54, .iload_n 2, 0, 0, 0), (55, .iadd, 0, 0, 0), (56, .iaload, 0, 0, 0), (57, .goto 4, 0, 0, 0)], 60) := rfl
theorem xf3_31_60 : xfind xw3_31.2.2.2.2.2 60 = ([(60, .iconst (-1), 0, 0, 0)], 61) := rfl
theorem xf3_31_61 : xfind xw3_31.2.2.2.2.2 61 = ([(61, .ireturn, 0, 0, 0)], 62) := rfl
theorem xf3_34_0 : xfind xw3_34.2.2.2.2.2 0 = ([(0, .iload_n 1, 0, 0, 0), (1, .ifCond .lt 20, 0, 0, 0), (4, .iload_n 1, 0, 0, 0), (5, .aload_n 0, 0, 0, 0), (6, .getfield 75, 3, 104, 0), (9, .if_icmp .ge 12, 0, 0, 0), (12, .aload_n 0, 0, 0, 0), (13, .getfield 53, 3, 98, 0), (16, .iload_n 1, 0, 0, 0), (17, .iaload, 0, 0, 0), (18, .goto 4, 0, 0, 0)], 21) := rfl
theorem xf3_34_21 : xfind xw3_34.2.2.2.2.2 21 = ([(21, .iconst (-1), 0, 0, 0)], 22) := rfl
theorem xf3_34_22 : xfind xw3_34.2.2.2.2.2 22 = ([(22, .ireturn, 0, 0, 0)], 23) := rfl
theorem xf4_3_0 : xfind xw4_3.2.2.2.2.2 0 = ([(0, .iload_n 1, 0, 0, 0), (1, .ifCond .lt 11, 0, 0, 0), (4, .iload_n 1, 0, 0, 0), (5, .aload_n 0, 0, 0, 0), (6, .getfield 42, 4, 80, 0), (9, .if_icmp .lt 5, 0, 0, 0)], 12) := rfl
theorem xf4_3_12 : xfind xw4_3.2.2.2.2.2 12 = ([(12, .iconst (-1), 0, 0, 0), (13, .ireturn, 0, 0, 0)], 14) := rfl
theorem xf4_5_0 : xfind xw4_5.2.2.2.2.2 0 = ([(0, .aload_n 0, 0, 0, 0), (1, .iconst 0, 0, 0, 0), (2, .putfield 48, 4, 104, 0), (5, .aload_n 0, 0, 0, 0), (6, .iconst (-1), 0, 0, 0), (7, .putfield 35, 4, 112, 0), (10, .aload_n 0, 0, 0, 0), (11, .iconst 0, 0, 0, 0), (12, .putfield 51, 4, 120, 0), (15, .return_, 0, 0, 0)], 16) := rfl
theorem xf4_9_0 : xfind xw4_9.2.2.2.2.2 0 = ([(0, .iload_n 1, 0, 0, 0), (1, .tableswitch 42 0 2 #[27, 32, 37], 0, 0, 0)], 28) := rfl
theorem xf4_13_0 : xfind xw4_13.2.2.2.2.2 0 = ([(0, .iconst 0, 0, 0, 0), (1, .istore_n 2, 0, 0, 0)], 2) := rfl
theorem xf4_13_2 : xfind xw4_13.2.2.2.2.2 2 = ([(2, .iload_n 2, 0, 0, 0), (3, .aload_n 0, 0, 0, 0), (4, .getfield 9, 4, 10, 0), (7, .arraylength, 0, 0, 0), (8, .if_icmp .ge 16, 0, 0, 0), (11, .aload_n 0, 0, 0, 0), (12, .getfield 9, 4, 10, 0), (15, .iload_n 2, 0, 0, 0), (16, .lconst 0, 0, 0, 0), (17, .lastore, 0, 0, 0), (18, .iinc 2 1, 0, 0, 0), (21, .goto (-19), 0, 0, 0)], 24) := rfl
theorem xf4_13_24 : xfind xw4_13.2.2.2.2.2 24 = ([(24, .aload_n 0, 0, 0, 0), (25, .iconst 0, 0, 0, 0), (26, .putfield 39, 4, 64, 0), (29, .aload_n 0, 0, 0, 0), (30, .iconst 0, 0, 0, 0), (31, .putfield 42, 4, 80, 0), (34, .aload_n 0, 0, 0, 0), (35, .invokevirtual 45, 4, 320, 0), (38, .aload_n 0, 0, 0, 0), (39, .iload_n 1, 0, 0, 0), (40, .putfield 90, 4, 88, 0), (43, .aload_n 0, 0, 0, 0), (44, .iconst 0, 0, 0, 0), (45, .putfield 93, 4, 99, 0), (48, .aload_n 0, 0, 0, 0), (49, .iconst 0, 0, 0, 0), (50, .sipush 400, 0, 0, 0), (53, .iconst 0, 0, 0, 0), (54, .iconst 0, 0, 0, 0), (55, .invokevirtual 99, 4, 1924, 0), (58, .aload_n 0, 0, 0, 0), (59, .getfield 93, 4, 99, 0), (62, .ifCond .eq 9, 0, 0, 0), (65, .aload_n 0, 0, 0, 0), (66, .invokevirtual 45, 4, 320, 0), (69, .iconst 2, 0, 0, 0), (70, .ireturn, 0, 0, 0)], 71) := rfl
theorem xf4_13_71 : xfind xw4_13.2.2.2.2.2 71 = ([(71, .aload_n 0, 0, 0, 0), (72, .getfield 48, 4, 104, 0), (75, .ifCond .ne 7, 0, 0, 0), (78, .iconst 0, 0, 0, 0), (79, .goto 4, 0, 0, 0)], 82) := rfl
theorem xf4_13_83 : xfind xw4_13.2.2.2.2.2 83 = ([(83, .ireturn, 0, 0, 0)], 84) := rfl
theorem xf4_15_0 : xfind xw4_15.2.2.2.2.2 0 = ([(0, .aload_n 0, 0, 0, 0), (1, .getfield 93, 4, 99, 0), (4, .ifCond .ne 14, 0, 0, 0), (7, .aload_n 0, 0, 0, 0), (8, .getfield 48, 4, 104, 0), (11, .ifCond .ne 7, 0, 0, 0), (14, .iconst 1, 0, 0, 0), (15, .goto 4, 0, 0, 0)], 18) := rfl
theorem xf4_15_19 : xfind xw4_15.2.2.2.2.2 19 = ([(19, .ireturn, 0, 0, 0)], 20) := rfl
theorem xf4_27_0 : xfind xw4_27.2.2.2.2.2 0 = ([(0, .aload_n 0, 0, 0, 0), (1, .aload_n 1, 0, 0, 0), (2, .putfield 31, 4, 2, 0), (5, .aload_n 0, 0, 0, 0), (6, .iconst 0, 0, 0, 0), (7, .putfield 39, 4, 64, 0), (10, .aload_n 0, 0, 0, 0), (11, .iconst 0, 0, 0, 0), (12, .putfield 42, 4, 80, 0), (15, .aload_n 0, 0, 0, 0), (16, .invokevirtual 45, 4, 320, 0), (19, .return_, 0, 0, 0)], 20) := rfl
theorem xf4_30_0 : xfind xw4_30.2.2.2.2.2 0 = ([(0, .iload_n 1, 0, 0, 0), (1, .istore 5, 0, 0, 0), (3, .iconst 0, 0, 0, 0), (4, .istore 6, 0, 0, 0)], 6) := rfl
theorem xf4_30_6 : xfind xw4_30.2.2.2.2.2 6 = ([(6, .iload 6, 0, 0, 0), (8, .sipush 400, 0, 0, 0), (11, .if_icmp .gt 72, 0, 0, 0), (14, .iload 5, 0, 0, 0), (16, .iload_n 2, 0, 0, 0), (17, .if_icmp .ge 66, 0, 0, 0), (20, .aload_n 0, 0, 0, 0), (21, .invokevirtual 116, 4, 960, 0), (24, .ifCond .eq 59, 0, 0, 0), (27, .iload 4, 0, 0, 0), (29, .bipush 10, 0, 0, 0), (31, .if_icmp .ge 52, 0, 0, 0), (34, .aload_n 0, 0, 0, 0), (35, .getfield 31, 4, 2, 0), (38, .iload 5, 0, 0, 0), (40, .invokevirtual 120, 8, 641, 0), (43, .istore 7, 0, 0, 0), (45, .iload 7, 0, 0, 0), (47, .iconst (-1), 0, 0, 0), (48, .if_icmp .ne 4, 0, 0, 0), (51, .return_, 0, 0, 0)], 52) := rfl
theorem xf5_4_0 : xfind xw5_4.2.2.2.2.2 0 = ([(0, .aload_n 0, 0, 0, 0), (1, .iload_n 1, 0, 0, 0), (2, .iload_n 2, 0, 0, 0), (3, .invokevirtual 114, 5, 642, 0), (6, .ifCond .ne 5, 0, 0, 0), (9, .iconst (-1), 0, 0, 0), (10, .ireturn, 0, 0, 0)], 11) := rfl
theorem xf5_10_0 : xfind xw5_10.2.2.2.2.2 0 = ([(0, .iload_n 2, 0, 0, 0), (1, .ifCond .lt 16, 0, 0, 0), (4, .iload_n 2, 0, 0, 0), (5, .aload_n 0, 0, 0, 0), (6, .iload_n 1, 0, 0, 0), (7, .invokevirtual 76, 5, 897, 0), (10, .if_icmp .ge 7, 0, 0, 0), (13, .iconst 1, 0, 0, 0), (14, .goto 4, 0, 0, 0)], 17) := rfl
theorem xf5_10_17 : xfind xw5_10.2.2.2.2.2 17 = ([(17, .iconst 0, 0, 0, 0)], 18) := rfl
theorem xf5_10_18 : xfind xw5_10.2.2.2.2.2 18 = ([(18, .ireturn, 0, 0, 0)], 19) := rfl
theorem xf5_11_0 : xfind xw5_11.2.2.2.2.2 0 = ([(0, .iload_n 1, 0, 0, 0), (1, .ifCond .lt 15, 0, 0, 0), (4, .iload_n 1, 0, 0, 0), (5, .aload_n 0, 0, 0, 0), (6, .getfield 53, 5, 0, 0), (9, .if_icmp .ge 7, 0, 0, 0), (12, .iconst 1, 0, 0, 0), (13, .goto 4, 0, 0, 0)], 16) := rfl
theorem xf5_11_16 : xfind xw5_11.2.2.2.2.2 16 = ([(16, .iconst 0, 0, 0, 0)], 17) := rfl
theorem xf5_11_17 : xfind xw5_11.2.2.2.2.2 17 = ([(17, .ireturn, 0, 0, 0)], 18) := rfl
theorem xf5_14_0 : xfind xw5_14.2.2.2.2.2 0 = ([(0, .aload_n 0, 0, 0, 0), (1, .iload_n 1, 0, 0, 0), (2, .invokevirtual 66, 5, 705, 0), (5, .ifCond .eq 20, 0, 0, 0), (8, .aload_n 0, 0, 0, 0), (9, .getfield 15, 5, 18, 0), (12, .iload_n 1, 0, 0, 0), (13, .iaload, 0, 0, 0), (14, .bipush 64, 0, 0, 0), (16, .iadd, 0, 0, 0), (17, .iconst 1, 0, 0, 0), (18, .isub, 0, 0, 0), (19, .bipush 64, 0, 0, 0), (21, .idiv, 0, 0, 0), (22, .goto 4, 0, 0, 0)], 25) := rfl
theorem xf5_14_25 : xfind xw5_14.2.2.2.2.2 25 = ([(25, .iconst 0, 0, 0, 0)], 26) := rfl
theorem xf5_14_26 : xfind xw5_14.2.2.2.2.2 26 = ([(26, .ireturn, 0, 0, 0)], 27) := rfl
theorem xf5_18_0 : xfind xw5_18.2.2.2.2.2 0 = ([(0, .aload_n 0, 0, 0, 0), (1, .iload_n 1, 0, 0, 0), (2, .invokevirtual 66, 5, 705, 0), (5, .ifCond .ne 6, 0, 0, 0), (8, .bipush (-2), 0, 0, 0), (10, .ireturn, 0, 0, 0)], 11) := rfl
theorem xf5_19_0 : xfind xw5_19.2.2.2.2.2 0 = ([(0, .aload_n 0, 0, 0, 0), (1, .iload_n 1, 0, 0, 0), (2, .iload_n 2, 0, 0, 0), (3, .invokevirtual 114, 5, 642, 0), (6, .ifCond .ne 5, 0, 0, 0), (9, .iconst (-1), 0, 0, 0), (10, .ireturn, 0, 0, 0)], 11) := rfl
theorem xf5_22_0 : xfind xw5_22.2.2.2.2.2 0 = ([(0, .aload_n 0, 0, 0, 0), (1, .iload_n 1, 0, 0, 0), (2, .invokevirtual 66, 5, 705, 0), (5, .ifCond .eq 28, 0, 0, 0), (8, .iload_n 2, 0, 0, 0), (9, .ifCond .lt 24, 0, 0, 0), (12, .iload_n 2, 0, 0, 0), (13, .bipush 32, 0, 0, 0), (15, .if_icmp .ge 18, 0, 0, 0), (18, .aload_n 0, 0, 0, 0), (19, .getfield 19, 5, 26, 0), (22, .aload_n 0, 0, 0, 0), (23, .iload_n 1, 0, 0, 0), (24, .invokevirtual 105, 5, 1345, 0), (27, .iload_n 2, 0, 0, 0), (28, .iadd, 0, 0, 0), (29, .iaload, 0, 0, 0), (30, .goto 4, 0, 0, 0)], 33) := rfl
theorem xf5_22_33 : xfind xw5_22.2.2.2.2.2 33 = ([(33, .iconst (-1), 0, 0, 0)], 34) := rfl
theorem xf5_22_34 : xfind xw5_22.2.2.2.2.2 34 = ([(34, .ireturn, 0, 0, 0)], 35) := rfl
theorem xf5_23_0 : xfind xw5_23.2.2.2.2.2 0 = ([(0, .iload_n 2, 0, 0, 0), (1, .ifCond .lt 22, 0, 0, 0), (4, .iload_n 2, 0, 0, 0), (5, .bipush 16, 0, 0, 0), (7, .if_icmp .ge 16, 0, 0, 0), (10, .iload_n 3, 0, 0, 0), (11, .ifCond .lt 12, 0, 0, 0), (14, .iload_n 3, 0, 0, 0), (15, .iconst 4, 0, 0, 0), (16, .if_icmp .ge 7, 0, 0, 0), (19, .iconst 1, 0, 0, 0), (20, .goto 4, 0, 0, 0)], 23) := rfl
theorem xf5_23_23 : xfind xw5_23.2.2.2.2.2 23 = ([(23, .iconst 0, 0, 0, 0)], 24) := rfl
theorem xf5_23_24 : xfind xw5_23.2.2.2.2.2 24 = ([(24, .istore 4, 0, 0, 0), (26, .aload_n 0, 0, 0, 0), (27, .iload_n 1, 0, 0, 0), (28, .invokevirtual 66, 5, 705, 0), (31, .ifCond .eq 8, 0, 0, 0), (34, .iload 4, 0, 0, 0), (36, .ifCond .ne 6, 0, 0, 0)], 39) := rfl
theorem xf5_23_39 : xfind xw5_23.2.2.2.2.2 39 = ([(39, .bipush (-2), 0, 0, 0), (41, .ireturn, 0, 0, 0)], 42) := rfl
theorem xf5_24_0 : xfind xw5_24.2.2.2.2.2 0 = ([(0, .aload_n 0, 0, 0, 0), (1, .iload_n 1, 0, 0, 0), (2, .invokevirtual 66, 5, 705, 0), (5, .ifCond .ne 6, 0, 0, 0), (8, .bipush (-2), 0, 0, 0), (10, .ireturn, 0, 0, 0)], 11) := rfl
theorem xf7_0_0 : xfind xw7_0.2.2.2.2.2 0 = ([(0, .aload_n 0, 0, 0, 0), (1, .getfield 19, 7, 16, 0), (4, .aload_n 0, 0, 0, 0), (5, .getfield 9, 7, 8, 0), (8, .if_icmp .lt 5, 0, 0, 0), (11, .iconst (-1), 0, 0, 0), (12, .ireturn, 0, 0, 0)], 13) := rfl
theorem xf7_0_13 : xfind xw7_0.2.2.2.2.2 13 = ([(13, .aload_n 0, 0, 0, 0), (14, .getfield 19, 7, 16, 0), (17, .bipush 6, 0, 0, 0), (19, .imul, 0, 0, 0), (20, .istore 6, 0, 0, 0), (22, .aload_n 0, 0, 0, 0), (23, .getfield 15, 7, 2, 0), (26, .iload 6, 0, 0, 0), (28, .iload_n 1, 0, 0, 0), (29, .iastore, 0, 0, 0), (30, .aload_n 0, 0, 0, 0), (31, .getfield 15, 7, 2, 0), (34, .iload 6, 0, 0, 0), (36, .iconst 1, 0, 0, 0), (37, .iadd, 0, 0, 0), (38, .iload_n 2, 0, 0, 0), (39, .iastore, 0, 0, 0), (40, .aload_n 0, 0, 0, 0), (41, .getfield 15, 7, 2, 0), (44, .iload 6, 0, 0, 0), (46, .iconst 2, 0, 0, 0), (47, .iadd, 0, 0, 0), (48, .iload_n 3, 0, 0, 0), (49, .iastore, 0, 0, 0), (50, .aload_n 0, 0, 0, 0), (51, .getfield 15, 7, 2, 0), (54, .iload 6, 0, 0, 0), (56, .iconst 3, 0, 0, 0), (57, .iadd, 0, 0, 0), (58, .iload 4, 0, 0, 0), (60, .iastore, 0, 0, 0), (61, .aload_n 0, 0, 0, 0), (62, .getfield 15, 7, 2, 0), (65, .iload 6, 0, 0, 0), (67, .iconst 4, 0, 0, 0), (68, .iadd, 0, 0, 0), (69, .iload 5, 0, 0, 0), (71, .iastore, 0, 0, 0), (72, .aload_n 0, 0, 0, 0), (73, .getfield 15, 7, 2, 0), (76, .iload 6, 0, 0, 0), (78, .iconst 5, 0, 0, 0), (79, .iadd, 0, 0, 0), (80, .iconst 0, 0, 0, 0), (81, .iastore, 0, 0, 0), (82, .aload_n 0, 0, 0, 0), (83, .dup, 0, 0, 0), (84, .getfield 19, 7, 16, 0), (87, .iconst 1, 0, 0, 0), (88, .iadd, 0, 0, 0), (89, .putfield 19, 7, 16, 0), (92, .aload_n 0, 0, 0, 0), (93, .getfield 19, 7, 16, 0), (96, .iconst 1, 0, 0, 0), (97, .isub, 0, 0, 0), (98, .ireturn, 0, 0, 0)], 99) := rfl
theorem xf7_1_0 : xfind xw7_1.2.2.2.2.2 0 = ([(0, .iload_n 1, 0, 0, 0), (1, .ifCond .lt 25, 0, 0, 0), (4, .iload_n 1, 0, 0, 0), (5, .aload_n 0, 0, 0, 0), (6, .getfield 19, 7, 16, 0), (9, .if_icmp .ge 17, 0, 0, 0), (12, .iload_n 2, 0, 0, 0), (13, .ifCond .lt 13, 0, 0, 0), (16, .iload_n 2, 0, 0, 0), (17, .bipush 6, 0, 0, 0), (19, .if_icmp .ge 7, 0, 0, 0), (22, .iconst 1, 0, 0, 0), (23, .goto 4, 0, 0, 0)], 26) := rfl
theorem xf7_1_26 : xfind xw7_1.2.2.2.2.2 26 = ([(26, .iconst 0, 0, 0, 0)], 27) := rfl
theorem xf7_1_27 : xfind xw7_1.2.2.2.2.2 27 = ([(27, .istore_n 3, 0, 0, 0), (28, .iload_n 3, 0, 0, 0), (29, .ifCond .eq 17, 0, 0, 0), (32, .aload_n 0, 0, 0, 0), (33, .getfield 15, 7, 2, 0), (36, .iload_n 1, 0, 0, 0), (37, .bipush 6, 0, 0, 0), (39, .imul, 0, 0, 0), (40, .iload_n 2, 0, 0, 0), (41, .iadd, 0, 0, 0), (42, .iaload, 0, 0, 0), (43, .goto 4, 0, 0, 0)], 46) := rfl
theorem xf7_1_46 : xfind xw7_1.2.2.2.2.2 46 = ([(46, .iconst (-1), 0, 0, 0)], 47) := rfl
theorem xf7_1_47 : xfind xw7_1.2.2.2.2.2 47 = ([(47, .ireturn, 0, 0, 0)], 48) := rfl
theorem xf7_2_0 : xfind xw7_2.2.2.2.2.2 0 = ([(0, .aload_n 0, 0, 0, 0), (1, .getfield 19, 7, 16, 0), (4, .aload_n 0, 0, 0, 0), (5, .getfield 9, 7, 8, 0), (8, .if_icmp .ge 7, 0, 0, 0), (11, .iconst 1, 0, 0, 0), (12, .goto 4, 0, 0, 0)], 15) := rfl
theorem xf7_2_16 : xfind xw7_2.2.2.2.2.2 16 = ([(16, .ireturn, 0, 0, 0)], 17) := rfl
theorem xf8_3_0 : xfind xw8_3.2.2.2.2.2 0 = ([(0, .aload_n 0, 0, 0, 0), (1, .iload_n 2, 0, 0, 0), (2, .sipush 400, 0, 0, 0), (5, .invokestatic 22, 999, 12, 0), (8, .aload_n 1, 0, 0, 0), (9, .arraylength, 0, 0, 0), (10, .invokestatic 22, 999, 12, 0), (13, .putfield 28, 8, 8, 0), (16, .iconst 0, 0, 0, 0), (17, .istore_n 3, 0, 0, 0)], 18) := rfl
theorem xf8_3_18 : xfind xw8_3.2.2.2.2.2 18 = ([(18, .iload_n 3, 0, 0, 0), (19, .aload_n 0, 0, 0, 0), (20, .getfield 28, 8, 8, 0), (23, .if_icmp .ge 18, 0, 0, 0), (26, .aload_n 0, 0, 0, 0), (27, .getfield 11, 8, 2, 0), (30, .iload_n 3, 0, 0, 0), (31, .aload_n 1, 0, 0, 0), (32, .iload_n 3, 0, 0, 0), (33, .caload, 0, 0, 0), (34, .castore, 0, 0, 0), (35, .iinc 3 1, 0, 0, 0), (38, .goto (-20), 0, 0, 0)], 41) := rfl
theorem xf8_3_41 : xfind xw8_3.2.2.2.2.2 41 = ([(41, .aload_n 0, 0, 0, 0), (42, .iconst 0, 0, 0, 0), (43, .putfield 32, 8, 16, 0), (46, .aload_n 0, 0, 0, 0), (47, .iconst (-1), 0, 0, 0), (48, .putfield 35, 8, 24, 0), (51, .aload_n 0, 0, 0, 0), (52, .iconst 0, 0, 0, 0), (53, .putfield 38, 8, 32, 0), (56, .iconst 0, 0, 0, 0), (57, .istore_n 3, 0, 0, 0)], 58) := rfl
theorem xf8_3_58 : xfind xw8_3.2.2.2.2.2 58 = ([(58, .iload_n 3, 0, 0, 0), (59, .bipush 26, 0, 0, 0), (61, .if_icmp .ge 16, 0, 0, 0), (64, .aload_n 0, 0, 0, 0), (65, .getfield 19, 8, 50, 0), (68, .iload_n 3, 0, 0, 0), (69, .iconst (-1), 0, 0, 0), (70, .iastore, 0, 0, 0), (71, .iinc 3 1, 0, 0, 0), (74, .goto (-16), 0, 0, 0)], 77) := rfl
theorem xf8_3_77 : xfind xw8_3.2.2.2.2.2 77 = ([(77, .aload_n 0, 0, 0, 0), (78, .iconst 0, 0, 0, 0), (79, .iconst (-1), 0, 0, 0), (80, .invokevirtual 41, 8, 1282, 0), (83, .aload_n 0, 0, 0, 0), (84, .getfield 35, 8, 24, 0), (87, .ireturn, 0, 0, 0)], 88) := rfl
theorem xf8_10_0 : xfind xw8_10.2.2.2.2.2 0 = ([(0, .iload_n 1, 0, 0, 0), (1, .ifCond .lt 20, 0, 0, 0), (4, .iload_n 1, 0, 0, 0), (5, .aload_n 0, 0, 0, 0), (6, .getfield 28, 8, 8, 0), (9, .if_icmp .ge 12, 0, 0, 0), (12, .aload_n 0, 0, 0, 0), (13, .getfield 11, 8, 2, 0), (16, .iload_n 1, 0, 0, 0), (17, .caload, 0, 0, 0), (18, .goto 4, 0, 0, 0)], 21) := rfl
theorem xf8_10_21 : xfind xw8_10.2.2.2.2.2 21 = ([(21, .iconst (-1), 0, 0, 0)], 22) := rfl
theorem xf8_10_22 : xfind xw8_10.2.2.2.2.2 22 = ([(22, .ireturn, 0, 0, 0)], 23) := rfl
theorem xf8_20_0 : xfind xw8_20.2.2.2.2.2 0 = ([(0, .iconst 0, 0, 0, 0), (1, .istore_n 3, 0, 0, 0)], 2) := rfl
theorem xf8_20_2 : xfind xw8_20.2.2.2.2.2 2 = ([(2, .iload_n 3, 0, 0, 0), (3, .sipush 400, 0, 0, 0), (6, .if_icmp .gt 60, 0, 0, 0), (9, .aload_n 0, 0, 0, 0), (10, .getfield 35, 8, 24, 0), (13, .iconst (-1), 0, 0, 0), (14, .if_icmp .ne 52, 0, 0, 0), (17, .aload_n 0, 0, 0, 0), (18, .aload_n 0, 0, 0, 0), (19, .getfield 32, 8, 16, 0), (22, .invokevirtual 49, 8, 641, 0), (25, .iload_n 2, 0, 0, 0), (26, .if_icmp .eq 40, 0, 0, 0), (29, .aload_n 0, 0, 0, 0), (30, .aload_n 0, 0, 0, 0), (31, .getfield 32, 8, 16, 0), (34, .invokevirtual 49, 8, 641, 0), (37, .bipush 10, 0, 0, 0), (39, .if_icmp .ne 16, 0, 0, 0), (42, .aload_n 0, 0, 0, 0), (43, .dup, 0, 0, 0), (44, .getfield 32, 8, 16, 0), (47, .iconst 1, 0, 0, 0), (48, .iadd, 0, 0, 0), (49, .putfield 32, 8, 16, 0), (52, .goto 8, 0, 0, 0)], 55) := rfl
theorem xf8_20_66 : xfind xw8_20.2.2.2.2.2 66 = ([(66, .return_, 0, 0, 0)], 67) := rfl
theorem xf9_0_0 : xfind xw9_0.2.2.2.2.2 0 = ([(0, .iload_n 1, 0, 0, 0), (1, .istore_n 3, 0, 0, 0), (2, .iconst 0, 0, 0, 0), (3, .istore 4, 0, 0, 0)], 5) := rfl
theorem xf9_0_5 : xfind xw9_0.2.2.2.2.2 5 = ([(5, .iload 4, 0, 0, 0), (7, .sipush 200, 0, 0, 0), (10, .if_icmp .ge 36, 0, 0, 0), (13, .iload_n 3, 0, 0, 0), (14, .iconst (-1), 0, 0, 0), (15, .if_icmp .eq 31, 0, 0, 0), (18, .aload_n 0, 0, 0, 0), (19, .getfield 9, 9, 58, 0), (22, .getfield 93, 2, 42, 0), (25, .iload_n 3, 0, 0, 0), (26, .iaload, 0, 0, 0), (27, .iload_n 2, 0, 0, 0), (28, .if_icmp .le 18, 0, 0, 0), (31, .aload_n 0, 0, 0, 0), (32, .getfield 9, 9, 58, 0), (35, .iload_n 3, 0, 0, 0), (36, .invokevirtual 87, 2, 1281, 0), (39, .istore_n 3, 0, 0, 0), (40, .iinc 4 1, 0, 0, 0), (43, .goto (-38), 0, 0, 0)], 46) := rfl
theorem xf9_0_46 : xfind xw9_0.2.2.2.2.2 46 = ([(46, .iload_n 3, 0, 0, 0), (47, .ireturn, 0, 0, 0)], 48) := rfl
theorem xf9_2_0 : xfind xw9_2.2.2.2.2.2 0 = ([(0, .aload_n 0, 0, 0, 0), (1, .getfield 32, 9, 24, 0), (4, .iconst (-1), 0, 0, 0), (5, .if_icmp .ne 8, 0, 0, 0), (8, .aload_n 0, 0, 0, 0), (9, .iload_n 1, 0, 0, 0), (10, .putfield 32, 9, 24, 0)], 13) := rfl
theorem xf9_2_13 : xfind xw9_2.2.2.2.2.2 13 = ([(13, .return_, 0, 0, 0)], 14) := rfl
theorem xf9_3_0 : xfind xw9_3.2.2.2.2.2 0 = ([(0, .aload_n 0, 0, 0, 0), (1, .aload_n 1, 0, 0, 0), (2, .putfield 15, 9, 2, 0), (5, .aload_n 0, 0, 0, 0), (6, .iload_n 2, 0, 0, 0), (7, .aload_n 1, 0, 0, 0), (8, .arraylength, 0, 0, 0), (9, .invokestatic 19, 999, 12, 0), (12, .putfield 25, 9, 8, 0), (15, .aload_n 0, 0, 0, 0), (16, .iconst 0, 0, 0, 0), (17, .putfield 29, 9, 16, 0), (20, .aload_n 0, 0, 0, 0), (21, .iconst (-1), 0, 0, 0), (22, .putfield 32, 9, 24, 0), (25, .aload_n 0, 0, 0, 0), (26, .iconst 0, 0, 0, 0), (27, .putfield 35, 9, 32, 0), (30, .aload_n 0, 0, 0, 0), (31, .iconst 1, 0, 0, 0), (32, .putfield 38, 9, 40, 0), (35, .aload_n 0, 0, 0, 0), (36, .iload_n 3, 0, 0, 0), (37, .ifCond .ne 7, 0, 0, 0), (40, .iconst 1, 0, 0, 0), (41, .goto 4, 0, 0, 0)], 44) := rfl
theorem xf9_3_44 : xfind xw9_3.2.2.2.2.2 44 = ([(44, .iconst 0, 0, 0, 0)], 45) := rfl
theorem xf9_3_45 : xfind xw9_3.2.2.2.2.2 45 = ([(45, .putfield 41, 9, 51, 0), (48, .aload_n 0, 0, 0, 0), (49, .aload 4, 0, 0, 0), (51, .putfield 9, 9, 58, 0), (54, .aload_n 0, 0, 0, 0), (55, .getfield 9, 9, 58, 0), (58, .iload_n 3, 0, 0, 0), (59, .invokevirtual 45, 2, 129, 0), (62, .aload_n 0, 0, 0, 0), (63, .getfield 41, 9, 51, 0), (66, .ifCond .eq 10, 0, 0, 0), (69, .aload_n 0, 0, 0, 0), (70, .invokevirtual 51, 9, 1216, 0), (73, .goto 7, 0, 0, 0)], 76) := rfl
theorem xf9_3_76 : xfind xw9_3.2.2.2.2.2 76 = ([(76, .aload_n 0, 0, 0, 0), (77, .invokevirtual 54, 9, 1088, 0)], 80) := rfl
theorem xf9_3_80 : xfind xw9_3.2.2.2.2.2 80 = ([(80, .aload_n 0, 0, 0, 0), (81, .getfield 32, 9, 24, 0), (84, .ireturn, 0, 0, 0)], 85) := rfl
theorem xf9_14_0 : xfind xw9_14.2.2.2.2.2 0 = ([(0, .aload_n 0, 0, 0, 0), (1, .getfield 29, 9, 16, 0), (4, .aload_n 0, 0, 0, 0), (5, .getfield 25, 9, 8, 0), (8, .if_icmp .ge 15, 0, 0, 0), (11, .aload_n 0, 0, 0, 0), (12, .getfield 15, 9, 2, 0), (15, .aload_n 0, 0, 0, 0), (16, .getfield 29, 9, 16, 0), (19, .caload, 0, 0, 0), (20, .goto 4, 0, 0, 0)], 23) := rfl
theorem xf9_14_23 : xfind xw9_14.2.2.2.2.2 23 = ([(23, .iconst (-1), 0, 0, 0)], 24) := rfl
theorem xf9_14_24 : xfind xw9_14.2.2.2.2.2 24 = ([(24, .ireturn, 0, 0, 0)], 25) := rfl
theorem xf9_16_0 : xfind xw9_16.2.2.2.2.2 0 = ([(0, .iload_n 1, 0, 0, 0), (1, .iconst (-1), 0, 0, 0), (2, .if_icmp .ne 7, 0, 0, 0), (5, .iconst 0, 0, 0, 0), (6, .goto 14, 0, 0, 0)], 9) := rfl
theorem xf9_16_20 : xfind xw9_16.2.2.2.2.2 20 = ([(20, .istore_n 2, 0, 0, 0), (21, .iconst 0, 0, 0, 0), (22, .istore_n 3, 0, 0, 0)], 23) := rfl
theorem xf9_16_23 : xfind xw9_16.2.2.2.2.2 23 = ([(23, .iload_n 3, 0, 0, 0), (24, .iload_n 2, 0, 0, 0), (25, .if_icmp .ge 28, 0, 0, 0), (28, .aload_n 0, 0, 0, 0), (29, .invokevirtual 60, 9, 896, 0), (32, .bipush 46, 0, 0, 0), (34, .if_icmp .ne 19, 0, 0, 0), (37, .aload_n 0, 0, 0, 0), (38, .dup, 0, 0, 0), (39, .getfield 29, 9, 16, 0), (42, .iconst 1, 0, 0, 0), (43, .iadd, 0, 0, 0), (44, .putfield 29, 9, 16, 0), (47, .iinc 3 1, 0, 0, 0), (50, .goto (-27), 0, 0, 0)], 53) := rfl
theorem xf9_16_53 : xfind xw9_16.2.2.2.2.2 53 = ([(53, .iload_n 1, 0, 0, 0), (54, .iconst (-1), 0, 0, 0), (55, .if_icmp .eq 17, 0, 0, 0), (58, .iload_n 3, 0, 0, 0), (59, .ifCond .ne 13, 0, 0, 0), (62, .aload_n 0, 0, 0, 0), (63, .aload_n 0, 0, 0, 0), (64, .getfield 29, 9, 16, 0), (67, .invokevirtual 64, 9, 129, 0), (70, .iload_n 1, 0, 0, 0), (71, .ireturn, 0, 0, 0)], 72) := rfl
theorem xf9_16_72 : xfind xw9_16.2.2.2.2.2 72 = ([(72, .aload_n 0, 0, 0, 0), (73, .getfield 29, 9, 16, 0), (76, .istore 4, 0, 0, 0), (78, .aload_n 0, 0, 0, 0), (79, .aload_n 0, 0, 0, 0), (80, .iload_n 1, 0, 0, 0), (81, .iload_n 3, 0, 0, 0), (82, .iconst 1, 0, 0, 0), (83, .isub, 0, 0, 0), (84, .invokevirtual 97, 9, 2, 0), (87, .invokevirtual 74, 9, 1281, 0), (90, .istore 5, 0, 0, 0), (92, .iload 5, 0, 0, 0), (94, .iconst (-1), 0, 0, 0), (95, .if_icmp .ne 5, 0, 0, 0), (98, .iload_n 1, 0, 0, 0), (99, .ireturn, 0, 0, 0)], 100) := rfl
theorem xf9_17_0 : xfind xw9_17.2.2.2.2.2 0 = ([(0, .iconst (-1), 0, 0, 0), (1, .istore_n 1, 0, 0, 0), (2, .iconst 0, 0, 0, 0), (3, .istore_n 2, 0, 0, 0)], 4) := rfl
theorem xf9_17_4 : xfind xw9_17.2.2.2.2.2 4 = ([(4, .iload_n 2, 0, 0, 0), (5, .aload_n 0, 0, 0, 0), (6, .getfield 25, 9, 8, 0), (9, .if_icmp .gt 38, 0, 0, 0), (12, .aload_n 0, 0, 0, 0), (13, .getfield 32, 9, 24, 0), (16, .iconst (-1), 0, 0, 0), (17, .if_icmp .ne 30, 0, 0, 0), (20, .iload_n 2, 0, 0, 0), (21, .ifCond .eq 14, 0, 0, 0), (24, .aload_n 0, 0, 0, 0), (25, .getfield 29, 9, 16, 0), (28, .aload_n 0, 0, 0, 0), (29, .getfield 25, 9, 8, 0), (32, .if_icmp .ge 15, 0, 0, 0)], 35) := rfl
theorem xf9_17_35 : xfind xw9_17.2.2.2.2.2 35 = ([(35, .aload_n 0, 0, 0, 0), (36, .iload_n 1, 0, 0, 0), (37, .invokevirtual 90, 9, 1025, 0), (40, .istore_n 1, 0, 0, 0), (41, .iinc 2 1, 0, 0, 0), (44, .goto (-40), 0, 0, 0)], 47) := rfl
theorem xf9_17_47 : xfind xw9_17.2.2.2.2.2 47 = ([(47, .return_, 0, 0, 0)], 48) := rfl
theorem xf9_19_0 : xfind xw9_19.2.2.2.2.2 0 = ([(0, .aload_n 0, 0, 0, 0), (1, .invokevirtual 57, 9, 1600, 0), (4, .aload_n 0, 0, 0, 0), (5, .invokevirtual 60, 9, 896, 0), (8, .bipush 40, 0, 0, 0), (10, .if_icmp .eq 11, 0, 0, 0), (13, .aload_n 0, 0, 0, 0), (14, .aload_n 0, 0, 0, 0), (15, .getfield 29, 9, 16, 0), (18, .invokevirtual 64, 9, 129, 0)], 21) := rfl
theorem xf9_19_21 : xfind xw9_19.2.2.2.2.2 21 = ([(21, .iconst (-1), 0, 0, 0), (22, .istore_n 1, 0, 0, 0), (23, .iconst 0, 0, 0, 0), (24, .istore_n 2, 0, 0, 0)], 25) := rfl
theorem xf9_19_25 : xfind xw9_19.2.2.2.2.2 25 = ([(25, .iload_n 2, 0, 0, 0), (26, .aload_n 0, 0, 0, 0), (27, .getfield 25, 9, 8, 0), (30, .if_icmp .gt 35, 0, 0, 0), (33, .aload_n 0, 0, 0, 0), (34, .getfield 32, 9, 24, 0), (37, .iconst (-1), 0, 0, 0), (38, .if_icmp .ne 27, 0, 0, 0), (41, .aload_n 0, 0, 0, 0), (42, .aload_n 0, 0, 0, 0), (43, .iload_n 1, 0, 0, 0), (44, .invokevirtual 67, 9, 1153, 0), (47, .invokevirtual 71, 9, 65, 0), (50, .istore_n 1, 0, 0, 0), (51, .iload_n 1, 0, 0, 0), (52, .iconst (-1), 0, 0, 0), (53, .if_icmp .ne 6, 0, 0, 0), (56, .goto 9, 0, 0, 0)], 59) := rfl
theorem xf9_19_65 : xfind xw9_19.2.2.2.2.2 65 = ([(65, .aload_n 0, 0, 0, 0), (66, .invokevirtual 57, 9, 1600, 0), (69, .aload_n 0, 0, 0, 0), (70, .getfield 29, 9, 16, 0), (73, .aload_n 0, 0, 0, 0), (74, .getfield 25, 9, 8, 0), (77, .if_icmp .ge 11, 0, 0, 0), (80, .aload_n 0, 0, 0, 0), (81, .aload_n 0, 0, 0, 0), (82, .getfield 29, 9, 16, 0), (85, .invokevirtual 64, 9, 129, 0)], 88) := rfl
theorem xf9_19_88 : xfind xw9_19.2.2.2.2.2 88 = ([(88, .return_, 0, 0, 0)], 89) := rfl
theorem xf9_20_0 : xfind xw9_20.2.2.2.2.2 0 = ([(0, .aload_n 0, 0, 0, 0), (1, .getfield 29, 9, 16, 0), (4, .istore_n 2, 0, 0, 0)], 5) := rfl
theorem xf9_20_5 : xfind xw9_20.2.2.2.2.2 5 = ([(5, .aload_n 0, 0, 0, 0), (6, .getfield 29, 9, 16, 0), (9, .aload_n 0, 0, 0, 0), (10, .getfield 25, 9, 8, 0), (13, .if_icmp .ge 44, 0, 0, 0), (16, .aload_n 0, 0, 0, 0), (17, .getfield 15, 9, 2, 0), (20, .aload_n 0, 0, 0, 0), (21, .getfield 29, 9, 16, 0), (24, .caload, 0, 0, 0), (25, .bipush 97, 0, 0, 0), (27, .if_icmp .lt 30, 0, 0, 0), (30, .aload_n 0, 0, 0, 0), (31, .getfield 15, 9, 2, 0), (34, .aload_n 0, 0, 0, 0), (35, .getfield 29, 9, 16, 0), (38, .caload, 0, 0, 0), (39, .bipush 122, 0, 0, 0), (41, .if_icmp .gt 16, 0, 0, 0), (44, .aload_n 0, 0, 0, 0), (45, .dup, 0, 0, 0), (46, .getfield 29, 9, 16, 0), (49, .iconst 1, 0, 0, 0), (50, .iadd, 0, 0, 0), (51, .putfield 29, 9, 16, 0), (54, .goto (-49), 0, 0, 0)], 57) := rfl
theorem xf9_20_57 : xfind xw9_20.2.2.2.2.2 57 = ([(57, .aload_n 0, 0, 0, 0), (58, .getfield 29, 9, 16, 0), (61, .iload_n 2, 0, 0, 0), (62, .if_icmp .ne 13, 0, 0, 0), (65, .aload_n 0, 0, 0, 0), (66, .aload_n 0, 0, 0, 0), (67, .getfield 29, 9, 16, 0), (70, .invokevirtual 64, 9, 129, 0), (73, .iconst (-1), 0, 0, 0), (74, .ireturn, 0, 0, 0)], 75) := rfl
theorem xf9_25_0 : xfind xw9_25.2.2.2.2.2 0 = ([(0, .aload_n 0, 0, 0, 0), (1, .getfield 29, 9, 16, 0), (4, .aload_n 0, 0, 0, 0), (5, .getfield 25, 9, 8, 0), (8, .if_icmp .ge 44, 0, 0, 0), (11, .aload_n 0, 0, 0, 0), (12, .getfield 15, 9, 2, 0), (15, .aload_n 0, 0, 0, 0), (16, .getfield 29, 9, 16, 0), (19, .caload, 0, 0, 0), (20, .bipush 32, 0, 0, 0), (22, .if_icmp .eq 17, 0, 0, 0), (25, .aload_n 0, 0, 0, 0), (26, .getfield 15, 9, 2, 0), (29, .aload_n 0, 0, 0, 0), (30, .getfield 29, 9, 16, 0), (33, .caload, 0, 0, 0), (34, .bipush 10, 0, 0, 0), (36, .if_icmp .ne 16, 0, 0, 0)], 39) := rfl
theorem xf9_25_52 : xfind xw9_25.2.2.2.2.2 52 = ([(52, .return_, 0, 0, 0)], 53) := rfl
theorem xf10_1_0 : xfind xw10_1.2.2.2.2.2 0 = ([(0, .aload_n 0, 0, 0, 0), (1, .getfield 70, 10, 8, 0), (4, .sipush 400, 0, 0, 0), (7, .if_icmp .ge 23, 0, 0, 0), (10, .aload_n 0, 0, 0, 0), (11, .getfield 11, 10, 2, 0), (14, .aload_n 0, 0, 0, 0), (15, .getfield 70, 10, 8, 0), (18, .iload_n 1, 0, 0, 0), (19, .iastore, 0, 0, 0), (20, .aload_n 0, 0, 0, 0), (21, .dup, 0, 0, 0), (22, .getfield 70, 10, 8, 0), (25, .iconst 1, 0, 0, 0), (26, .iadd, 0, 0, 0), (27, .putfield 70, 10, 8, 0)], 30) := rfl
theorem xf10_1_30 : xfind xw10_1.2.2.2.2.2 30 = ([(30, .return_, 0, 0, 0)], 31) := rfl
theorem xf10_3_0 : xfind xw10_3.2.2.2.2.2 0 = ([(0, .aload_n 0, 0, 0, 0), (1, .getfield 43, 10, 83, 0), (4, .ifCond .ne 15, 0, 0, 0), (7, .aload_n 0, 0, 0, 0), (8, .iload_n 1, 0, 0, 0), (9, .invokevirtual 132, 10, 641, 0), (12, .ifCond .eq 7, 0, 0, 0), (15, .iload_n 2, 0, 0, 0), (16, .ifCond .ge 5, 0, 0, 0)], 19) := rfl
theorem xf10_3_19 : xfind xw10_3.2.2.2.2.2 19 = ([(19, .iconst (-1), 0, 0, 0), (20, .ireturn, 0, 0, 0)], 21) := rfl
theorem xf10_5_0 : xfind xw10_5.2.2.2.2.2 0 = ([(0, .aload_n 0, 0, 0, 0), (1, .getfield 43, 10, 83, 0), (4, .ifCond .eq 6, 0, 0, 0), (7, .bipush (-3), 0, 0, 0), (9, .ireturn, 0, 0, 0)], 10) := rfl
theorem xf10_5_10 : xfind xw10_5.2.2.2.2.2 10 = ([(10, .aload_n 0, 0, 0, 0), (11, .iload_n 1, 0, 0, 0), (12, .invokevirtual 132, 10, 641, 0), (15, .ifCond .ne 6, 0, 0, 0), (18, .bipush (-2), 0, 0, 0), (20, .ireturn, 0, 0, 0)], 21) := rfl
theorem xf10_6_0 : xfind xw10_6.2.2.2.2.2 0 = ([(0, .iconst 0, 0, 0, 0), (1, .istore_n 1, 0, 0, 0), (2, .iconst 0, 0, 0, 0), (3, .istore_n 2, 0, 0, 0)], 4) := rfl
theorem xf10_6_4 : xfind xw10_6.2.2.2.2.2 4 = ([(4, .iload_n 2, 0, 0, 0), (5, .aload_n 0, 0, 0, 0), (6, .getfield 67, 10, 40, 0), (9, .if_icmp .ge 36, 0, 0, 0), (12, .aload_n 0, 0, 0, 0), (13, .getfield 21, 10, 34, 0), (16, .iload_n 2, 0, 0, 0), (17, .baload, 0, 0, 0), (18, .ifCond .eq 21, 0, 0, 0), (21, .aload_n 0, 0, 0, 0), (22, .iload_n 2, 0, 0, 0), (23, .invokevirtual 128, 10, 705, 0), (26, .ifCond .ne 13, 0, 0, 0), (29, .aload_n 0, 0, 0, 0), (30, .getfield 21, 10, 34, 0), (33, .iload_n 2, 0, 0, 0), (34, .iconst 0, 0, 0, 0), (35, .bastore, 0, 0, 0), (36, .iinc 1 1, 0, 0, 0)], 39) := rfl
theorem xf10_6_45 : xfind xw10_6.2.2.2.2.2 45 = ([(45, .iload_n 1, 0, 0, 0), (46, .ireturn, 0, 0, 0)], 47) := rfl
theorem xf10_10_0 : xfind xw10_10.2.2.2.2.2 0 = ([(0, .iload_n 1, 0, 0, 0), (1, .ifCond .lt 15, 0, 0, 0), (4, .iload_n 1, 0, 0, 0), (5, .aload_n 0, 0, 0, 0), (6, .getfield 47, 10, 72, 0), (9, .if_icmp .ge 7, 0, 0, 0), (12, .iconst 1, 0, 0, 0), (13, .goto 4, 0, 0, 0)], 16) := rfl
theorem xf10_10_16 : xfind xw10_10.2.2.2.2.2 16 = ([(16, .iconst 0, 0, 0, 0)], 17) := rfl
theorem xf10_10_17 : xfind xw10_10.2.2.2.2.2 17 = ([(17, .ireturn, 0, 0, 0)], 18) := rfl
theorem xf10_12_0 : xfind xw10_12.2.2.2.2.2 0 = ([(0, .aload_n 1, 0, 0, 0), (1, .getfield 37, 0, 0, 0), (4, .iconst (-1), 0, 0, 0), (5, .if_icmp .eq 10, 0, 0, 0), (8, .aload_n 0, 0, 0, 0), (9, .getfield 43, 10, 83, 0), (12, .ifCond .eq 6, 0, 0, 0)], 15) := rfl
theorem xf10_12_15 : xfind xw10_12.2.2.2.2.2 15 = ([(15, .bipush (-3), 0, 0, 0), (17, .ireturn, 0, 0, 0)], 18) := rfl
theorem xf10_13_0 : xfind xw10_13.2.2.2.2.2 0 = ([(0, .aload_n 0, 0, 0, 0), (1, .getfield 43, 10, 83, 0), (4, .ifCond .eq 6, 0, 0, 0), (7, .bipush (-3), 0, 0, 0), (9, .ireturn, 0, 0, 0)], 10) := rfl
theorem xf10_13_10 : xfind xw10_13.2.2.2.2.2 10 = ([(10, .iload_n 1, 0, 0, 0), (11, .ifCond .lt 11, 0, 0, 0), (14, .iload_n 1, 0, 0, 0), (15, .aload_n 0, 0, 0, 0), (16, .getfield 70, 10, 8, 0), (19, .if_icmp .le 6, 0, 0, 0)], 22) := rfl
theorem xf10_13_22 : xfind xw10_13.2.2.2.2.2 22 = ([(22, .bipush (-2), 0, 0, 0), (24, .ireturn, 0, 0, 0)], 25) := rfl
theorem xf10_13_25 : xfind xw10_13.2.2.2.2.2 25 = ([(25, .aload_n 0, 0, 0, 0), (26, .getfield 135, 10, 88, 0), (29, .bipush 16, 0, 0, 0), (31, .if_icmp .lt 5, 0, 0, 0), (34, .iconst (-1), 0, 0, 0), (35, .ireturn, 0, 0, 0)], 36) := rfl
theorem xf10_13_36 : xfind xw10_13.2.2.2.2.2 36 = ([(36, .aload_n 0, 0, 0, 0), (37, .dup, 0, 0, 0), (38, .getfield 135, 10, 88, 0), (41, .iconst 1, 0, 0, 0), (42, .iadd, 0, 0, 0), (43, .putfield 135, 10, 88, 0), (46, .aload_n 0, 0, 0, 0), (47, .iconst 1, 0, 0, 0), (48, .putfield 43, 10, 83, 0), (51, .aload_n 0, 0, 0, 0), (52, .iload_n 1, 0, 0, 0), (53, .putfield 70, 10, 8, 0), (56, .iconst 0, 0, 0, 0), (57, .ireturn, 0, 0, 0)], 58) := rfl
theorem xf10_14_0 : xfind xw10_14.2.2.2.2.2 0 = ([(0, .aload_n 2, 0, 0, 0), (1, .getfield 37, 0, 0, 0), (4, .iconst (-1), 0, 0, 0), (5, .if_icmp .eq 10, 0, 0, 0), (8, .aload_n 0, 0, 0, 0), (9, .getfield 43, 10, 83, 0), (12, .ifCond .eq 6, 0, 0, 0)], 15) := rfl
theorem xf10_14_15 : xfind xw10_14.2.2.2.2.2 15 = ([(15, .bipush (-3), 0, 0, 0), (17, .ireturn, 0, 0, 0)], 18) := rfl
theorem xf10_18_0 : xfind xw10_18.2.2.2.2.2 0 = ([(0, .aload_n 0, 0, 0, 0), (1, .getfield 43, 10, 83, 0), (4, .ifCond .ne 6, 0, 0, 0), (7, .bipush (-3), 0, 0, 0), (9, .ireturn, 0, 0, 0)], 10) := rfl
theorem xf10_21_0 : xfind xw10_21.2.2.2.2.2 0 = ([(0, .aload_n 0, 0, 0, 0), (1, .getfield 43, 10, 83, 0), (4, .ifCond .eq 6, 0, 0, 0), (7, .bipush (-3), 0, 0, 0), (9, .ireturn, 0, 0, 0)], 10) := rfl
theorem xf10_21_10 : xfind xw10_21.2.2.2.2.2 10 = ([(10, .aload_n 0, 0, 0, 0), (11, .getfield 70, 10, 8, 0), (14, .iconst 1, 0, 0, 0), (15, .iadd, 0, 0, 0), (16, .sipush 400, 0, 0, 0), (19, .if_icmp .le 5, 0, 0, 0), (22, .iconst (-1), 0, 0, 0), (23, .ireturn, 0, 0, 0)], 24) := rfl
theorem xf10_21_24 : xfind xw10_21.2.2.2.2.2 24 = ([(24, .aload_n 0, 0, 0, 0), (25, .iconst 5, 0, 0, 0), (26, .invokevirtual 103, 10, 65, 0), (29, .aload_n 0, 0, 0, 0), (30, .invokevirtual 124, 10, 384, 0), (33, .ireturn, 0, 0, 0)], 34) := rfl
theorem xf11_0_0 : xfind xw11_0.2.2.2.2.2 0 = ([(0, .aload_n 0, 0, 0, 0), (1, .getfield 252, 11, 112, 0), (4, .ifCond .ne 7, 0, 0, 0), (7, .iconst (-1), 0, 0, 0), (8, .goto 13, 0, 0, 0)], 11) := rfl
theorem xf11_0_21 : xfind xw11_0.2.2.2.2.2 21 = ([(21, .ireturn, 0, 0, 0)], 22) := rfl
theorem xf11_1_0 : xfind xw11_1.2.2.2.2.2 0 = ([(0, .aload_n 0, 0, 0, 0), (1, .iload_n 1, 0, 0, 0), (2, .ifCond .ge 8, 0, 0, 0), (5, .iload_n 1, 0, 0, 0), (6, .ineg, 0, 0, 0), (7, .goto 4, 0, 0, 0)], 10) := rfl
theorem xf11_1_10 : xfind xw11_1.2.2.2.2.2 10 = ([(10, .iconst 0, 0, 0, 0)], 11) := rfl
theorem xf11_1_11 : xfind xw11_1.2.2.2.2.2 11 = ([(11, .putfield 122, 11, 24, 0), (14, .iload_n 1, 0, 0, 0), (15, .ifCond .ge 7, 0, 0, 0), (18, .iconst (-1), 0, 0, 0), (19, .goto 4, 0, 0, 0)], 22) := rfl
theorem xf11_1_22 : xfind xw11_1.2.2.2.2.2 22 = ([(22, .iload_n 1, 0, 0, 0)], 23) := rfl
theorem xf11_1_23 : xfind xw11_1.2.2.2.2.2 23 = ([(23, .ireturn, 0, 0, 0)], 24) := rfl
theorem xf11_2_0 : xfind xw11_2.2.2.2.2.2 0 = ([(0, .aload_n 0, 0, 0, 0), (1, .aload_n 0, 0, 0, 0), (2, .getfield 107, 11, 154, 0), (5, .iload_n 1, 0, 0, 0), (6, .iload_n 2, 0, 0, 0), (7, .iload_n 3, 0, 0, 0), (8, .invokevirtual 351, 5, 1475, 0), (11, .invokevirtual 125, 11, 65, 0), (14, .ireturn, 0, 0, 0)], 15) := rfl
theorem xf11_3_0 : xfind xw11_3.2.2.2.2.2 0 = ([(0, .aload_n 0, 0, 0, 0), (1, .aload_n 0, 0, 0, 0), (2, .getfield 46, 11, 74, 0), (5, .iload_n 1, 0, 0, 0), (6, .iload_n 2, 0, 0, 0), (7, .iload_n 3, 0, 0, 0), (8, .invokevirtual 203, 0, 131, 0), (11, .invokevirtual 115, 11, 1409, 0), (14, .ireturn, 0, 0, 0)], 15) := rfl
theorem xf11_4_0 : xfind xw11_4.2.2.2.2.2 0 = ([(0, .aload_n 0, 0, 0, 0), (1, .getfield 46, 11, 74, 0), (4, .iload_n 1, 0, 0, 0), (5, .iload_n 2, 0, 0, 0), (6, .invokevirtual 238, 0, 258, 0), (9, .ireturn, 0, 0, 0)], 10) := rfl
theorem xf11_5_0 : xfind xw11_5.2.2.2.2.2 0 = ([(0, .aload_n 0, 0, 0, 0), (1, .getfield 39, 11, 66, 0), (4, .getfield 132, 3, 120, 0), (7, .ifCond .ne 10, 0, 0, 0), (10, .aload_n 0, 0, 0, 0), (11, .bipush (-3), 0, 0, 0), (13, .invokevirtual 125, 11, 65, 0), (16, .ireturn, 0, 0, 0)], 17) := rfl
theorem xf11_6_0 : xfind xw11_6.2.2.2.2.2 0 = ([(0, .aload_n 0, 0, 0, 0), (1, .getfield 107, 11, 154, 0), (4, .iload_n 1, 0, 0, 0), (5, .iload_n 2, 0, 0, 0), (6, .iload_n 3, 0, 0, 0), (7, .iload 4, 0, 0, 0), (9, .invokevirtual 366, 5, 260, 0), (12, .ireturn, 0, 0, 0)], 13) := rfl
theorem xf11_7_0 : xfind xw11_7.2.2.2.2.2 0 = ([(0, .aload_n 0, 0, 0, 0), (1, .getfield 252, 11, 112, 0), (4, .ifCond .ne 7, 0, 0, 0), (7, .iconst (-1), 0, 0, 0), (8, .goto 11, 0, 0, 0)], 11) := rfl
theorem xf11_7_19 : xfind xw11_7.2.2.2.2.2 19 = ([(19, .ireturn, 0, 0, 0)], 20) := rfl
theorem xf11_8_0 : xfind xw11_8.2.2.2.2.2 0 = ([(0, .aload_n 0, 0, 0, 0), (1, .getfield 46, 11, 74, 0), (4, .getfield 177, 0, 0, 0), (7, .iconst (-1), 0, 0, 0), (8, .if_icmp .ne 10, 0, 0, 0), (11, .aload_n 0, 0, 0, 0), (12, .bipush (-3), 0, 0, 0), (14, .invokevirtual 115, 11, 1409, 0), (17, .ireturn, 0, 0, 0)], 18) := rfl
theorem xf11_9_0 : xfind xw11_9.2.2.2.2.2 0 = ([(0, .aload_n 0, 0, 0, 0), (1, .getfield 46, 11, 74, 0), (4, .iload_n 1, 0, 0, 0), (5, .invokevirtual 227, 0, 769, 0), (8, .ifCond .eq 19, 0, 0, 0), (11, .aload_n 0, 0, 0, 0), (12, .getfield 46, 11, 74, 0), (15, .getfield 230, 0, 90, 0), (18, .iload_n 1, 0, 0, 0), (19, .iconst 3, 0, 0, 0), (20, .invokevirtual 233, 7, 66, 0), (23, .i2l, 0, 0, 0), (24, .goto 6, 0, 0, 0)], 27) := rfl
theorem xf11_9_27 : xfind xw11_9.2.2.2.2.2 27 = ([(27, .ldc2_w 236, 0, 0, -1)], 30) := rfl
theorem xf11_9_30 : xfind xw11_9.2.2.2.2.2 30 = ([(30, .lreturn, 0, 0, 0)], 31) := rfl
theorem xf11_10_0 : xfind xw11_10.2.2.2.2.2 0 = ([(0, .aload_n 0, 0, 0, 0), (1, .aload_n 0, 0, 0, 0), (2, .getfield 100, 11, 146, 0), (5, .iload_n 1, 0, 0, 0), (6, .invokevirtual 332, 10, 833, 0), (9, .invokevirtual 115, 11, 1409, 0), (12, .ireturn, 0, 0, 0)], 13) := rfl
theorem xf11_11_0 : xfind xw11_11.2.2.2.2.2 0 = ([(0, .aload_n 0, 0, 0, 0), (1, .getfield 46, 11, 74, 0), (4, .getfield 177, 0, 0, 0), (7, .iconst (-1), 0, 0, 0), (8, .if_icmp .ne 10, 0, 0, 0), (11, .aload_n 0, 0, 0, 0), (12, .bipush (-3), 0, 0, 0), (14, .invokevirtual 125, 11, 65, 0), (17, .ireturn, 0, 0, 0)], 18) := rfl
theorem xf11_12_0 : xfind xw11_12.2.2.2.2.2 0 = ([(0, .aload_n 0, 0, 0, 0), (1, .getfield 93, 11, 138, 0), (4, .iload_n 1, 0, 0, 0), (5, .invokevirtual 319, 4, 193, 0), (8, .ireturn, 0, 0, 0)], 9) := rfl
theorem xf11_13_0 : xfind xw11_13.2.2.2.2.2 0 = ([(0, .aload_n 0, 0, 0, 0), (1, .getfield 252, 11, 112, 0), (4, .ifCond .ne 7, 0, 0, 0), (7, .iconst (-1), 0, 0, 0), (8, .goto 12, 0, 0, 0)], 11) := rfl
theorem xf11_13_20 : xfind xw11_13.2.2.2.2.2 20 = ([(20, .ireturn, 0, 0, 0)], 21) := rfl
theorem xf11_14_0 : xfind xw11_14.2.2.2.2.2 0 = ([(0, .aload_n 0, 0, 0, 0), (1, .aload_n 0, 0, 0, 0), (2, .getfield 100, 11, 146, 0), (5, .iload_n 1, 0, 0, 0), (6, .invokevirtual 326, 10, 321, 0), (9, .invokevirtual 115, 11, 1409, 0), (12, .ireturn, 0, 0, 0)], 13) := rfl
theorem xf11_15_0 : xfind xw11_15.2.2.2.2.2 0 = ([(0, .iload_n 1, 0, 0, 0), (1, .ifCond .lt 11, 0, 0, 0), (4, .iload_n 1, 0, 0, 0), (5, .aload_n 0, 0, 0, 0), (6, .getfield 111, 11, 8, 0), (9, .if_icmp .le 10, 0, 0, 0)], 12) := rfl
theorem xf11_15_12 : xfind xw11_15.2.2.2.2.2 12 = ([(12, .aload_n 0, 0, 0, 0), (13, .bipush (-2), 0, 0, 0), (15, .invokevirtual 115, 11, 1409, 0), (18, .ireturn, 0, 0, 0)], 19) := rfl
theorem xf11_15_19 : xfind xw11_15.2.2.2.2.2 19 = ([(19, .aload_n 0, 0, 0, 0), (20, .iload_n 1, 0, 0, 0), (21, .putfield 111, 11, 8, 0), (24, .aload_n 0, 0, 0, 0), (25, .iconst 0, 0, 0, 0), (26, .invokevirtual 115, 11, 1409, 0), (29, .ireturn, 0, 0, 0)], 30) := rfl
theorem xf11_16_0 : xfind xw11_16.2.2.2.2.2 0 = ([(0, .aload_n 0, 0, 0, 0), (1, .getfield 93, 11, 138, 0), (4, .iload_n 1, 0, 0, 0), (5, .invokevirtual 316, 4, 577, 0), (8, .ireturn, 0, 0, 0)], 9) := rfl
theorem xf11_17_0 : xfind xw11_17.2.2.2.2.2 0 = ([(0, .aload_n 0, 0, 0, 0), (1, .getfield 252, 11, 112, 0), (4, .ifCond .le 17, 0, 0, 0), (7, .aload_n 0, 0, 0, 0), (8, .getfield 71, 11, 98, 0), (11, .invokevirtual 282, 1, 1920, 0), (14, .ifCond .eq 7, 0, 0, 0), (17, .iconst 1, 0, 0, 0), (18, .goto 4, 0, 0, 0)], 21) := rfl
theorem xf11_17_21 : xfind xw11_17.2.2.2.2.2 21 = ([(21, .iconst 0, 0, 0, 0)], 22) := rfl
theorem xf11_17_22 : xfind xw11_17.2.2.2.2.2 22 = ([(22, .ireturn, 0, 0, 0)], 23) := rfl
theorem xf11_18_0 : xfind xw11_18.2.2.2.2.2 0 = ([(0, .aload_n 0, 0, 0, 0), (1, .getfield 46, 11, 74, 0), (4, .getfield 177, 0, 0, 0), (7, .iconst (-1), 0, 0, 0), (8, .if_icmp .ne 10, 0, 0, 0), (11, .aload_n 0, 0, 0, 0), (12, .bipush (-3), 0, 0, 0), (14, .invokevirtual 115, 11, 1409, 0), (17, .ireturn, 0, 0, 0)], 18) := rfl
theorem xf11_19_0 : xfind xw11_19.2.2.2.2.2 0 = ([(0, .aload_n 0, 0, 0, 0), (1, .iconst 2, 0, 0, 0), (2, .putfield 122, 11, 24, 0), (5, .bipush (-2), 0, 0, 0), (7, .iload_n 1, 0, 0, 0), (8, .isub, 0, 0, 0), (9, .ireturn, 0, 0, 0)], 10) := rfl
theorem xf11_20_0 : xfind xw11_20.2.2.2.2.2 0 = ([(0, .aload_n 0, 0, 0, 0), (1, .getfield 111, 11, 8, 0), (4, .bipush 20, 0, 0, 0), (6, .iadd, 0, 0, 0), (7, .sipush 4000, 0, 0, 0), (10, .if_icmp .le 9, 0, 0, 0), (13, .aload_n 0, 0, 0, 0), (14, .iconst (-1), 0, 0, 0), (15, .invokevirtual 115, 11, 1409, 0), (18, .ireturn, 0, 0, 0)], 19) := rfl
theorem xf11_20_19 : xfind xw11_20.2.2.2.2.2 19 = ([(19, .aload_n 0, 0, 0, 0), (20, .iload_n 1, 0, 0, 0), (21, .invokevirtual 119, 11, 1345, 0), (24, .aload_n 0, 0, 0, 0), (25, .iload_n 2, 0, 0, 0), (26, .invokevirtual 119, 11, 1345, 0), (29, .aload_n 0, 0, 0, 0), (30, .iload_n 3, 0, 0, 0), (31, .invokevirtual 119, 11, 1345, 0), (34, .aload_n 0, 0, 0, 0), (35, .iload 4, 0, 0, 0), (37, .invokevirtual 119, 11, 1345, 0), (40, .aload_n 0, 0, 0, 0), (41, .iload 5, 0, 0, 0), (43, .invokevirtual 119, 11, 1345, 0), (46, .aload_n 0, 0, 0, 0), (47, .iconst 0, 0, 0, 0), (48, .invokevirtual 115, 11, 1409, 0), (51, .ireturn, 0, 0, 0)], 52) := rfl
theorem xf11_21_0 : xfind xw11_21.2.2.2.2.2 0 = ([(0, .bipush 24, 0, 0, 0), (2, .istore_n 2, 0, 0, 0)], 3) := rfl
theorem xf11_21_3 : xfind xw11_21.2.2.2.2.2 3 = ([(3, .iload_n 2, 0, 0, 0), (4, .ifCond .lt 42, 0, 0, 0), (7, .aload_n 0, 0, 0, 0), (8, .getfield 111, 11, 8, 0), (11, .sipush 4000, 0, 0, 0), (14, .if_icmp .ge 32, 0, 0, 0), (17, .aload_n 0, 0, 0, 0), (18, .getfield 9, 11, 2, 0), (21, .aload_n 0, 0, 0, 0), (22, .getfield 111, 11, 8, 0), (25, .iload_n 1, 0, 0, 0), (26, .iload_n 2, 0, 0, 0), (27, .iushr, 0, 0, 0), (28, .i2b, 0, 0, 0), (29, .bastore, 0, 0, 0), (30, .aload_n 0, 0, 0, 0), (31, .dup, 0, 0, 0), (32, .getfield 111, 11, 8, 0), (35, .iconst 1, 0, 0, 0), (36, .iadd, 0, 0, 0), (37, .putfield 111, 11, 8, 0), (40, .iinc 2 (-8), 0, 0, 0), (43, .goto (-40), 0, 0, 0)], 46) := rfl
theorem xf11_21_46 : xfind xw11_21.2.2.2.2.2 46 = ([(46, .return_, 0, 0, 0)], 47) := rfl
theorem xf11_22_0 : xfind xw11_22.2.2.2.2.2 0 = ([(0, .aload_n 0, 0, 0, 0), (1, .iload_n 1, 0, 0, 0), (2, .invokevirtual 125, 11, 65, 0), (5, .iconst (-1), 0, 0, 0), (6, .if_icmp .eq 7, 0, 0, 0), (9, .iconst 1, 0, 0, 0), (10, .goto 4, 0, 0, 0)], 13) := rfl
theorem xf11_22_13 : xfind xw11_22.2.2.2.2.2 13 = ([(13, .iconst 0, 0, 0, 0)], 14) := rfl
theorem xf11_22_14 : xfind xw11_22.2.2.2.2.2 14 = ([(14, .ireturn, 0, 0, 0)], 15) := rfl
theorem xf11_24_0 : xfind xw11_24.2.2.2.2.2 0 = ([(0, .iload_n 0, 0, 0, 0), (1, .iconst (-1), 0, 0, 0), (2, .if_icmp .lt 12, 0, 0, 0), (5, .iload_n 0, 0, 0, 0), (6, .iconst 3, 0, 0, 0), (7, .if_icmp .gt 7, 0, 0, 0), (10, .iconst 1, 0, 0, 0), (11, .goto 4, 0, 0, 0)], 14) := rfl
theorem xf11_24_14 : xfind xw11_24.2.2.2.2.2 14 = ([(14, .iconst 0, 0, 0, 0)], 15) := rfl
theorem xf11_24_15 : xfind xw11_24.2.2.2.2.2 15 = ([(15, .ireturn, 0, 0, 0)], 16) := rfl
theorem xf11_26_0 : xfind xw11_26.2.2.2.2.2 0 = ([(0, .aload_n 0, 0, 0, 0), (1, .getfield 20, 11, 34, 0), (4, .iload_n 1, 0, 0, 0), (5, .invokevirtual 154, 2, 1025, 0), (8, .ireturn, 0, 0, 0)], 9) := rfl
theorem xf11_27_0 : xfind xw11_27.2.2.2.2.2 0 = ([(0, .aload_n 0, 0, 0, 0), (1, .aload_n 0, 0, 0, 0), (2, .getfield 100, 11, 146, 0), (5, .iload_n 1, 0, 0, 0), (6, .aload_n 0, 0, 0, 0), (7, .getfield 46, 11, 74, 0), (10, .invokevirtual 341, 10, 898, 0), (13, .invokevirtual 125, 11, 65, 0), (16, .ireturn, 0, 0, 0)], 17) := rfl
theorem xf11_28_0 : xfind xw11_28.2.2.2.2.2 0 = ([(0, .aload_n 0, 0, 0, 0), (1, .getfield 39, 11, 66, 0), (4, .iload_n 1, 0, 0, 0), (5, .invokevirtual 171, 3, 1921, 0), (8, .ireturn, 0, 0, 0)], 9) := rfl
theorem xf11_29_0 : xfind xw11_29.2.2.2.2.2 0 = ([(0, .aload_n 0, 0, 0, 0), (1, .getfield 39, 11, 66, 0), (4, .iload_n 1, 0, 0, 0), (5, .iload_n 2, 0, 0, 0), (6, .invokevirtual 167, 3, 1986, 0), (9, .ireturn, 0, 0, 0)], 10) := rfl
theorem xf11_30_0 : xfind xw11_30.2.2.2.2.2 0 = ([(0, .aload_n 0, 0, 0, 0), (1, .getfield 39, 11, 66, 0), (4, .getfield 164, 3, 112, 0), (7, .ireturn, 0, 0, 0)], 8) := rfl
theorem xf11_31_0 : xfind xw11_31.2.2.2.2.2 0 = ([(0, .aload_n 0, 0, 0, 0), (1, .getfield 20, 11, 34, 0), (4, .iload_n 1, 0, 0, 0), (5, .iload_n 2, 0, 0, 0), (6, .invokevirtual 157, 2, 1154, 0), (9, .lreturn, 0, 0, 0)], 10) := rfl
theorem xf11_32_0 : xfind xw11_32.2.2.2.2.2 0 = ([(0, .iload_n 1, 0, 0, 0), (1, .ifCond .lt 14, 0, 0, 0), (4, .iload_n 1, 0, 0, 0), (5, .aload_n 0, 0, 0, 0), (6, .getfield 93, 11, 138, 0), (9, .getfield 307, 4, 64, 0), (12, .if_icmp .lt 9, 0, 0, 0)], 15) := rfl
theorem xf11_32_15 : xfind xw11_32.2.2.2.2.2 15 = ([(15, .ldc2_w 310, 0, 0, 1099511627776), (18, .goto 14, 0, 0, 0)], 21) := rfl
theorem xf11_32_32 : xfind xw11_32.2.2.2.2.2 32 = ([(32, .lreturn, 0, 0, 0)], 33) := rfl
theorem xf11_33_0 : xfind xw11_33.2.2.2.2.2 0 = ([(0, .aload_n 0, 0, 0, 0), (1, .sipush 400, 0, 0, 0), (4, .invokevirtual 135, 11, 3265, 0), (7, .istore_n 1, 0, 0, 0), (8, .aload_n 0, 0, 0, 0), (9, .getfield 85, 11, 130, 0), (12, .aload_n 0, 0, 0, 0), (13, .getfield 13, 11, 18, 0), (16, .iload_n 1, 0, 0, 0), (17, .invokevirtual 291, 8, 194, 0), (20, .istore_n 2, 0, 0, 0), (21, .iload_n 2, 0, 0, 0), (22, .iconst (-1), 0, 0, 0), (23, .if_icmp .eq 9, 0, 0, 0), (26, .aload_n 0, 0, 0, 0), (27, .iload_n 2, 0, 0, 0), (28, .invokevirtual 142, 11, 1217, 0), (31, .ireturn, 0, 0, 0)], 32) := rfl
theorem xf11_33_32 : xfind xw11_33.2.2.2.2.2 32 = ([(32, .aload_n 0, 0, 0, 0), (33, .getfield 81, 11, 122, 0), (36, .astore_n 3, 0, 0, 0), (37, .aload_n 0, 0, 0, 0), (38, .aload_n 0, 0, 0, 0), (39, .getfield 85, 11, 130, 0), (42, .putfield 81, 11, 122, 0), (45, .aload_n 0, 0, 0, 0), (46, .aload_n 3, 0, 0, 0), (47, .putfield 85, 11, 130, 0), (50, .aload_n 0, 0, 0, 0), (51, .getfield 93, 11, 138, 0), (54, .aload_n 0, 0, 0, 0), (55, .getfield 81, 11, 122, 0), (58, .invokevirtual 294, 4, 1729, 0), (61, .aload_n 0, 0, 0, 0), (62, .aload_n 0, 0, 0, 0), (63, .getfield 81, 11, 122, 0), (66, .getfield 297, 8, 32, 0), (69, .invokevirtual 125, 11, 65, 0), (72, .ireturn, 0, 0, 0)], 73) := rfl
theorem xf11_34_0 : xfind xw11_34.2.2.2.2.2 0 = ([(0, .aload_n 0, 0, 0, 0), (1, .getfield 107, 11, 154, 0), (4, .iload_n 1, 0, 0, 0), (5, .iload_n 2, 0, 0, 0), (6, .iload_n 3, 0, 0, 0), (7, .invokevirtual 363, 5, 1219, 0), (10, .ireturn, 0, 0, 0)], 11) := rfl
theorem xf11_35_0 : xfind xw11_35.2.2.2.2.2 0 = ([(0, .aload_n 0, 0, 0, 0), (1, .aload_n 0, 0, 0, 0), (2, .getfield 46, 11, 74, 0), (5, .iload_n 1, 0, 0, 0), (6, .iload_n 2, 0, 0, 0), (7, .iload_n 3, 0, 0, 0), (8, .iload 4, 0, 0, 0), (10, .iload 5, 0, 0, 0), (12, .invokevirtual 199, 0, 5, 0), (15, .invokevirtual 125, 11, 65, 0), (18, .ireturn, 0, 0, 0)], 19) := rfl
theorem xf11_36_0 : xfind xw11_36.2.2.2.2.2 0 = ([(0, .aload_n 0, 0, 0, 0), (1, .getfield 252, 11, 112, 0), (4, .ifCond .ne 10, 0, 0, 0), (7, .aload_n 0, 0, 0, 0), (8, .bipush (-3), 0, 0, 0), (10, .invokevirtual 125, 11, 65, 0), (13, .ireturn, 0, 0, 0)], 14) := rfl
theorem xf11_37_0 : xfind xw11_37.2.2.2.2.2 0 = ([(0, .aload_n 0, 0, 0, 0), (1, .getfield 39, 11, 66, 0), (4, .iload_n 1, 0, 0, 0), (5, .invokevirtual 174, 3, 2177, 0), (8, .ireturn, 0, 0, 0)], 9) := rfl
theorem xf11_38_0 : xfind xw11_38.2.2.2.2.2 0 = ([(0, .aload_n 0, 0, 0, 0), (1, .aload_n 0, 0, 0, 0), (2, .getfield 100, 11, 146, 0), (5, .invokevirtual 335, 10, 1152, 0), (8, .invokevirtual 125, 11, 65, 0), (11, .ireturn, 0, 0, 0)], 12) := rfl
theorem xf11_39_0 : xfind xw11_39.2.2.2.2.2 0 = ([(0, .aload_n 0, 0, 0, 0), (1, .getfield 252, 11, 112, 0), (4, .ifCond .ne 7, 0, 0, 0), (7, .iconst (-1), 0, 0, 0), (8, .goto 11, 0, 0, 0)], 11) := rfl
theorem xf11_39_19 : xfind xw11_39.2.2.2.2.2 19 = ([(19, .ireturn, 0, 0, 0)], 20) := rfl
theorem xf11_40_0 : xfind xw11_40.2.2.2.2.2 0 = ([(0, .aload_n 0, 0, 0, 0), (1, .getfield 107, 11, 154, 0), (4, .iload_n 1, 0, 0, 0), (5, .iload_n 2, 0, 0, 0), (6, .invokevirtual 360, 5, 1410, 0), (9, .ireturn, 0, 0, 0)], 10) := rfl
theorem xf11_41_0 : xfind xw11_41.2.2.2.2.2 0 = ([(0, .aload_n 0, 0, 0, 0), (1, .getfield 46, 11, 74, 0), (4, .getfield 177, 0, 0, 0), (7, .iconst (-1), 0, 0, 0), (8, .if_icmp .ne 10, 0, 0, 0), (11, .aload_n 0, 0, 0, 0), (12, .bipush (-3), 0, 0, 0), (14, .invokevirtual 125, 11, 65, 0), (17, .ireturn, 0, 0, 0)], 18) := rfl
theorem xf11_42_0 : xfind xw11_42.2.2.2.2.2 0 = ([(0, .iload_n 1, 0, 0, 0), (1, .iconst 4, 0, 0, 0), (2, .if_icmp .ne 7, 0, 0, 0), (5, .iconst 0, 0, 0, 0), (6, .goto 5, 0, 0, 0)], 9) := rfl
theorem xf11_42_9 : xfind xw11_42.2.2.2.2.2 9 = ([(9, .ldc 241, 0, 0, 100000)], 11) := rfl
theorem xf11_42_11 : xfind xw11_42.2.2.2.2.2 11 = ([(11, .istore 5, 0, 0, 0), (13, .iload_n 1, 0, 0, 0), (14, .ifCond .lt 26, 0, 0, 0), (17, .iload_n 1, 0, 0, 0), (18, .iconst 4, 0, 0, 0), (19, .if_icmp .gt 21, 0, 0, 0), (22, .iload_n 2, 0, 0, 0), (23, .invokestatic 242, 11, 1537, 0), (26, .ifCond .eq 14, 0, 0, 0), (29, .iload_n 3, 0, 0, 0), (30, .invokestatic 242, 11, 1537, 0), (33, .ifCond .eq 7, 0, 0, 0), (36, .iconst 1, 0, 0, 0), (37, .goto 4, 0, 0, 0)], 40) := rfl
theorem xf11_42_40 : xfind xw11_42.2.2.2.2.2 40 = ([(40, .iconst 0, 0, 0, 0)], 41) := rfl
theorem xf11_42_41 : xfind xw11_42.2.2.2.2.2 41 = ([(41, .istore 6, 0, 0, 0), (43, .iload 6, 0, 0, 0), (45, .ifCond .eq 15, 0, 0, 0), (48, .iload 4, 0, 0, 0), (50, .ifCond .lt 10, 0, 0, 0), (53, .iload 4, 0, 0, 0), (55, .iload 5, 0, 0, 0), (57, .if_icmp .le 10, 0, 0, 0)], 60) := rfl
theorem xf11_42_60 : xfind xw11_42.2.2.2.2.2 60 = ([(60, .aload_n 0, 0, 0, 0), (61, .bipush (-2), 0, 0, 0), (63, .invokevirtual 125, 11, 65, 0), (66, .ireturn, 0, 0, 0)], 67) := rfl
theorem xf11_42_67 : xfind xw11_42.2.2.2.2.2 67 = ([(67, .aload_n 0, 0, 0, 0), (68, .getfield 64, 11, 90, 0), (71, .invokevirtual 245, 7, 128, 0), (74, .ifCond .ne 9, 0, 0, 0), (77, .aload_n 0, 0, 0, 0), (78, .iconst (-1), 0, 0, 0), (79, .invokevirtual 125, 11, 65, 0), (82, .ireturn, 0, 0, 0)], 83) := rfl
theorem xf11_42_83 : xfind xw11_42.2.2.2.2.2 83 = ([(83, .aload_n 0, 0, 0, 0), (84, .aload_n 0, 0, 0, 0), (85, .getfield 64, 11, 90, 0), (88, .iload_n 1, 0, 0, 0), (89, .iload_n 2, 0, 0, 0), (90, .iload_n 3, 0, 0, 0), (91, .iload 4, 0, 0, 0), (93, .iconst 0, 0, 0, 0), (94, .invokevirtual 249, 7, 5, 0), (97, .invokevirtual 125, 11, 65, 0), (100, .ireturn, 0, 0, 0)], 101) := rfl
theorem xf11_43_0 : xfind xw11_43.2.2.2.2.2 0 = ([(0, .iload_n 1, 0, 0, 0), (1, .iconst 1, 0, 0, 0), (2, .if_icmp .lt 10, 0, 0, 0), (5, .iload_n 1, 0, 0, 0), (6, .sipush 300, 0, 0, 0), (9, .if_icmp .le 10, 0, 0, 0)], 12) := rfl
theorem xf11_43_12 : xfind xw11_43.2.2.2.2.2 12 = ([(12, .aload_n 0, 0, 0, 0), (13, .bipush (-2), 0, 0, 0), (15, .invokevirtual 125, 11, 65, 0), (18, .ireturn, 0, 0, 0)], 19) := rfl
theorem xf11_43_19 : xfind xw11_43.2.2.2.2.2 19 = ([(19, .aload_n 0, 0, 0, 0), (20, .aload_n 0, 0, 0, 0), (21, .getfield 93, 11, 138, 0), (24, .iload_n 1, 0, 0, 0), (25, .invokevirtual 304, 4, 833, 0), (28, .invokevirtual 125, 11, 65, 0), (31, .ireturn, 0, 0, 0)], 32) := rfl
theorem xf11_44_0 : xfind xw11_44.2.2.2.2.2 0 = ([(0, .aload_n 0, 0, 0, 0), (1, .aload_n 0, 0, 0, 0), (2, .getfield 100, 11, 146, 0), (5, .aload_n 0, 0, 0, 0), (6, .getfield 46, 11, 74, 0), (9, .invokevirtual 322, 10, 769, 0), (12, .invokevirtual 125, 11, 65, 0), (15, .ireturn, 0, 0, 0)], 16) := rfl
theorem xf11_45_0 : xfind xw11_45.2.2.2.2.2 0 = ([(0, .aload_n 0, 0, 0, 0), (1, .getfield 100, 11, 146, 0), (4, .iload_n 1, 0, 0, 0), (5, .iload_n 2, 0, 0, 0), (6, .invokevirtual 338, 10, 194, 0), (9, .ireturn, 0, 0, 0)], 10) := rfl
theorem xf11_46_0 : xfind xw11_46.2.2.2.2.2 0 = ([(0, .aload_n 0, 0, 0, 0), (1, .aload_n 0, 0, 0, 0), (2, .getfield 107, 11, 154, 0), (5, .iload_n 1, 0, 0, 0), (6, .invokevirtual 357, 5, 1153, 0), (9, .invokevirtual 125, 11, 65, 0), (12, .ireturn, 0, 0, 0)], 13) := rfl
theorem xf11_47_0 : xfind xw11_47.2.2.2.2.2 0 = ([(0, .iload_n 1, 0, 0, 0), (1, .ifCond .eq 15, 0, 0, 0), (4, .iload_n 1, 0, 0, 0), (5, .iconst 1, 0, 0, 0), (6, .if_icmp .eq 10, 0, 0, 0), (9, .aload_n 0, 0, 0, 0), (10, .bipush (-2), 0, 0, 0), (12, .invokevirtual 125, 11, 65, 0), (15, .ireturn, 0, 0, 0)], 16) := rfl
theorem xf11_47_16 : xfind xw11_47.2.2.2.2.2 16 = ([(16, .aload_n 0, 0, 0, 0), (17, .getfield 129, 11, 56, 0), (20, .bipush 24, 0, 0, 0), (22, .if_icmp .ge 14, 0, 0, 0), (25, .aload_n 0, 0, 0, 0), (26, .getfield 39, 11, 66, 0), (29, .getfield 132, 3, 120, 0), (32, .iconst 4, 0, 0, 0), (33, .if_icmp .lt 9, 0, 0, 0)], 36) := rfl
theorem xf11_47_42 : xfind xw11_47.2.2.2.2.2 42 = ([(42, .aload_n 0, 0, 0, 0), (43, .dup, 0, 0, 0), (44, .getfield 129, 11, 56, 0), (47, .iconst 1, 0, 0, 0), (48, .iadd, 0, 0, 0), (49, .putfield 129, 11, 56, 0), (52, .aload_n 0, 0, 0, 0), (53, .sipush 4000, 0, 0, 0), (56, .invokevirtual 135, 11, 3265, 0), (59, .istore_n 2, 0, 0, 0), (60, .aload_n 0, 0, 0, 0), (61, .getfield 32, 11, 50, 0), (64, .aload_n 0, 0, 0, 0), (65, .getfield 13, 11, 18, 0), (68, .iload_n 2, 0, 0, 0), (69, .iload_n 1, 0, 0, 0), (70, .aload_n 0, 0, 0, 0), (71, .getfield 24, 11, 42, 0), (74, .invokevirtual 138, 9, 196, 0), (77, .istore_n 3, 0, 0, 0), (78, .iload_n 3, 0, 0, 0), (79, .iconst (-1), 0, 0, 0), (80, .if_icmp .eq 9, 0, 0, 0), (83, .aload_n 0, 0, 0, 0), (84, .iload_n 3, 0, 0, 0), (85, .invokevirtual 142, 11, 1217, 0), (88, .ireturn, 0, 0, 0)], 89) := rfl
theorem xf11_48_0 : xfind xw11_48.2.2.2.2.2 0 = ([(0, .aload_n 0, 0, 0, 0), (1, .getfield 252, 11, 112, 0), (4, .ifCond .ne 7, 0, 0, 0), (7, .iconst (-1), 0, 0, 0), (8, .goto 10, 0, 0, 0)], 11) := rfl
theorem xf11_48_18 : xfind xw11_48.2.2.2.2.2 18 = ([(18, .ireturn, 0, 0, 0)], 19) := rfl
theorem xf11_50_0 : xfind xw11_50.2.2.2.2.2 0 = ([(0, .aload_n 0, 0, 0, 0), (1, .aload_n 0, 0, 0, 0), (2, .getfield 100, 11, 146, 0), (5, .invokevirtual 329, 10, 1344, 0), (8, .invokevirtual 125, 11, 65, 0), (11, .ireturn, 0, 0, 0)], 12) := rfl
theorem xf11_51_0 : xfind xw11_51.2.2.2.2.2 0 = ([(0, .iconst 0, 0, 0, 0), (1, .istore_n 2, 0, 0, 0), (2, .iconst 0, 0, 0, 0), (3, .istore_n 3, 0, 0, 0)], 4) := rfl
theorem xf11_51_4 : xfind xw11_51.2.2.2.2.2 4 = ([(4, .iload_n 3, 0, 0, 0), (5, .aload_n 0, 0, 0, 0), (6, .getfield 111, 11, 8, 0), (9, .if_icmp .ge 55, 0, 0, 0), (12, .iload_n 2, 0, 0, 0), (13, .iload_n 1, 0, 0, 0), (14, .if_icmp .ge 50, 0, 0, 0), (17, .aload_n 0, 0, 0, 0), (18, .getfield 9, 11, 2, 0), (21, .iload_n 3, 0, 0, 0), (22, .baload, 0, 0, 0), (23, .istore 4, 0, 0, 0), (25, .iload 4, 0, 0, 0), (27, .bipush 10, 0, 0, 0), (29, .if_icmp .eq 17, 0, 0, 0), (32, .iload 4, 0, 0, 0), (34, .bipush 32, 0, 0, 0), (36, .if_icmp .lt 22, 0, 0, 0), (39, .iload 4, 0, 0, 0), (41, .bipush 126, 0, 0, 0), (43, .if_icmp .gt 15, 0, 0, 0)], 46) := rfl
theorem xf11_51_64 : xfind xw11_51.2.2.2.2.2 64 = ([(64, .aload_n 0, 0, 0, 0), (65, .iconst 0, 0, 0, 0), (66, .putfield 111, 11, 8, 0), (69, .iload_n 2, 0, 0, 0), (70, .ireturn, 0, 0, 0)], 71) := rfl
theorem xf11_52_0 : xfind xw11_52.2.2.2.2.2 0 = ([(0, .aload_n 0, 0, 0, 0), (1, .getfield 122, 11, 24, 0), (4, .ireturn, 0, 0, 0)], 5) := rfl
theorem xf11_53_0 : xfind xw11_53.2.2.2.2.2 0 = ([(0, .aload_n 0, 0, 0, 0), (1, .getfield 252, 11, 112, 0), (4, .ifCond .ne 7, 0, 0, 0), (7, .iconst (-1), 0, 0, 0), (8, .goto 12, 0, 0, 0)], 11) := rfl
theorem xf11_53_20 : xfind xw11_53.2.2.2.2.2 20 = ([(20, .ireturn, 0, 0, 0)], 21) := rfl
theorem xf11_54_0 : xfind xw11_54.2.2.2.2.2 0 = ([(0, .aload_n 0, 0, 0, 0), (1, .getfield 252, 11, 112, 0), (4, .ifCond .ne 7, 0, 0, 0), (7, .iconst (-1), 0, 0, 0), (8, .goto 10, 0, 0, 0)], 11) := rfl
theorem xf11_54_18 : xfind xw11_54.2.2.2.2.2 18 = ([(18, .ireturn, 0, 0, 0)], 19) := rfl
theorem xf11_55_0 : xfind xw11_55.2.2.2.2.2 0 = ([(0, .aload_n 0, 0, 0, 0), (1, .getfield 46, 11, 74, 0), (4, .iload_n 1, 0, 0, 0), (5, .iload_n 2, 0, 0, 0), (6, .iload_n 3, 0, 0, 0), (7, .invokevirtual 224, 0, 1795, 0), (10, .ireturn, 0, 0, 0)], 11) := rfl
theorem xf11_56_0 : xfind xw11_56.2.2.2.2.2 0 = ([(0, .aload_n 0, 0, 0, 0), (1, .aload_n 0, 0, 0, 0), (2, .getfield 107, 11, 154, 0), (5, .iload_n 1, 0, 0, 0), (6, .invokevirtual 354, 5, 1537, 0), (9, .invokevirtual 115, 11, 1409, 0), (12, .ireturn, 0, 0, 0)], 13) := rfl
theorem xf11_58_0 : xfind xw11_58.2.2.2.2.2 0 = ([(0, .aload_n 0, 0, 0, 0), (1, .getfield 20, 11, 34, 0), (4, .iload_n 1, 0, 0, 0), (5, .invokevirtual 161, 2, 1217, 0), (8, .ireturn, 0, 0, 0)], 9) := rfl
theorem xf12_2_0 : xfind xw12_2.2.2.2.2.2 0 = ([(0, .aload_n 0, 0, 0, 0), (1, .iconst 0, 0, 0, 0), (2, .putfield 164, 12, 0, 0), (5, .iload_n 1, 0, 0, 0), (6, .ifCond .lt 11, 0, 0, 0), (9, .iload_n 1, 0, 0, 0), (10, .aload_n 0, 0, 0, 0), (11, .getfield 139, 12, 304, 0), (14, .if_icmp .lt 5, 0, 0, 0)], 17) := rfl
theorem xf12_2_17 : xfind xw12_2.2.2.2.2.2 17 = ([(17, .iconst (-1), 0, 0, 0), (18, .ireturn, 0, 0, 0)], 19) := rfl
theorem xf12_15_0 : xfind xw12_15.2.2.2.2.2 0 = ([(0, .aload_n 0, 0, 0, 0), (1, .iload_n 1, 0, 0, 0), (2, .ifCond .lt 12, 0, 0, 0), (5, .iload_n 1, 0, 0, 0), (6, .iconst 3, 0, 0, 0), (7, .if_icmp .ge 7, 0, 0, 0), (10, .iconst 0, 0, 0, 0), (11, .goto 4, 0, 0, 0)], 14) := rfl
theorem xf12_15_14 : xfind xw12_15.2.2.2.2.2 14 = ([(14, .iconst 1, 0, 0, 0)], 15) := rfl
theorem xf12_15_15 : xfind xw12_15.2.2.2.2.2 15 = ([(15, .putfield 164, 12, 0, 0), (18, .aload_n 0, 0, 0, 0), (19, .getfield 164, 12, 0, 0), (22, .ifCond .eq 5, 0, 0, 0), (25, .iconst 0, 0, 0, 0), (26, .ireturn, 0, 0, 0)], 27) := rfl
theorem xf12_15_27 : xfind xw12_15.2.2.2.2.2 27 = ([(27, .iload_n 1, 0, 0, 0), (28, .ifCond .ne 10, 0, 0, 0), (31, .aload_n 0, 0, 0, 0), (32, .getfield 155, 12, 368, 0), (35, .goto 19, 0, 0, 0)], 38) := rfl
theorem xf12_15_38 : xfind xw12_15.2.2.2.2.2 38 = ([(38, .iload_n 1, 0, 0, 0), (39, .iconst 1, 0, 0, 0), (40, .if_icmp .ne 10, 0, 0, 0), (43, .aload_n 0, 0, 0, 0), (44, .getfield 158, 12, 376, 0), (47, .goto 7, 0, 0, 0)], 50) := rfl
theorem xf12_15_50 : xfind xw12_15.2.2.2.2.2 50 = ([(50, .aload_n 0, 0, 0, 0), (51, .getfield 161, 12, 384, 0)], 54) := rfl
theorem xf12_15_54 : xfind xw12_15.2.2.2.2.2 54 = ([(54, .ireturn, 0, 0, 0)], 55) := rfl
theorem xf12_18_0 : xfind xw12_18.2.2.2.2.2 0 = ([(0, .iconst 0, 0, 0, 0), (1, .istore_n 1, 0, 0, 0)], 2) := rfl
theorem xf12_18_2 : xfind xw12_18.2.2.2.2.2 2 = ([(2, .iload_n 1, 0, 0, 0), (3, .bipush 26, 0, 0, 0), (5, .if_icmp .ge 16, 0, 0, 0), (8, .aload_n 0, 0, 0, 0), (9, .getfield 69, 12, 266, 0), (12, .iload_n 1, 0, 0, 0), (13, .lconst 0, 0, 0, 0), (14, .lastore, 0, 0, 0), (15, .iinc 1 1, 0, 0, 0), (18, .goto (-16), 0, 0, 0)], 21) := rfl
theorem xf12_18_21 : xfind xw12_18.2.2.2.2.2 21 = ([(21, .aload_n 0, 0, 0, 0), (22, .lconst 0, 0, 0, 0), (23, .putfield 132, 12, 281, 0), (26, .aload_n 0, 0, 0, 0), (27, .iconst 0, 0, 0, 0), (28, .putfield 136, 12, 288, 0), (31, .aload_n 0, 0, 0, 0), (32, .iconst 0, 0, 0, 0), (33, .putfield 139, 12, 304, 0), (36, .aload_n 0, 0, 0, 0), (37, .iconst 0, 0, 0, 0), (38, .putfield 142, 12, 320, 0), (41, .aload_n 0, 0, 0, 0), (42, .iconst 0, 0, 0, 0), (43, .putfield 145, 12, 336, 0), (46, .aload_n 0, 0, 0, 0), (47, .iconst 0, 0, 0, 0), (48, .putfield 148, 12, 355, 0), (51, .aload_n 0, 0, 0, 0), (52, .iconst 0, 0, 0, 0), (53, .putfield 152, 12, 360, 0), (56, .aload_n 0, 0, 0, 0), (57, .iconst 0, 0, 0, 0), (58, .putfield 155, 12, 368, 0), (61, .aload_n 0, 0, 0, 0), (62, .iconst (-1), 0, 0, 0), (63, .putfield 158, 12, 376, 0), (66, .aload_n 0, 0, 0, 0), (67, .iconst 0, 0, 0, 0), (68, .putfield 161, 12, 384, 0), (71, .return_, 0, 0, 0)], 72) := rfl
theorem xf12_34_0 : xfind xw12_34.2.2.2.2.2 0 = ([(0, .sipush 600, 0, 0, 0), (3, .aload_n 0, 0, 0, 0), (4, .getfield 177, 12, 120, 0), (7, .imul, 0, 0, 0), (8, .aload_n 0, 0, 0, 0), (9, .getfield 230, 12, 144, 0), (12, .iadd, 0, 0, 0), (13, .istore_n 3, 0, 0, 0), (14, .aload_n 0, 0, 0, 0), (15, .getfield 19, 12, 50, 0), (18, .iload_n 3, 0, 0, 0), (19, .iload_n 1, 0, 0, 0), (20, .iastore, 0, 0, 0), (21, .aload_n 0, 0, 0, 0), (22, .getfield 22, 12, 58, 0), (25, .iload_n 3, 0, 0, 0), (26, .iload_n 2, 0, 0, 0), (27, .iastore, 0, 0, 0), (28, .aload_n 0, 0, 0, 0), (29, .getfield 25, 12, 66, 0), (32, .iload_n 3, 0, 0, 0), (33, .iconst 0, 0, 0, 0), (34, .iastore, 0, 0, 0), (35, .aload_n 0, 0, 0, 0), (36, .getfield 28, 12, 74, 0), (39, .iload_n 3, 0, 0, 0), (40, .iconst 0, 0, 0, 0), (41, .iastore, 0, 0, 0), (42, .aload_n 0, 0, 0, 0), (43, .getfield 31, 12, 82, 0), (46, .iload_n 3, 0, 0, 0), (47, .iconst 0, 0, 0, 0), (48, .iastore, 0, 0, 0), (49, .aload_n 0, 0, 0, 0), (50, .getfield 34, 12, 90, 0), (53, .iload_n 3, 0, 0, 0), (54, .iconst 0, 0, 0, 0), (55, .iastore, 0, 0, 0), (56, .aload_n 0, 0, 0, 0), (57, .dup, 0, 0, 0), (58, .getfield 230, 12, 144, 0), (61, .iconst 1, 0, 0, 0), (62, .iadd, 0, 0, 0), (63, .putfield 230, 12, 144, 0), (66, .aload_n 0, 0, 0, 0), (67, .getfield 230, 12, 144, 0), (70, .iconst 1, 0, 0, 0), (71, .isub, 0, 0, 0), (72, .ireturn, 0, 0, 0)], 73) := rfl
theorem xf12_35_0 : xfind xw12_35.2.2.2.2.2 0 = ([(0, .aload_n 0, 0, 0, 0), (1, .iload_n 1, 0, 0, 0), (2, .ifCond .lt 15, 0, 0, 0), (5, .iload_n 1, 0, 0, 0), (6, .aload_n 0, 0, 0, 0), (7, .getfield 136, 12, 288, 0), (10, .if_icmp .ge 7, 0, 0, 0), (13, .iconst 0, 0, 0, 0), (14, .goto 4, 0, 0, 0)], 17) := rfl
theorem xf12_35_17 : xfind xw12_35.2.2.2.2.2 17 = ([(17, .iconst 1, 0, 0, 0)], 18) := rfl
theorem xf12_35_18 : xfind xw12_35.2.2.2.2.2 18 = ([(18, .putfield 164, 12, 0, 0), (21, .aload_n 0, 0, 0, 0), (22, .getfield 164, 12, 0, 0), (25, .ifCond .ne 12, 0, 0, 0), (28, .aload_n 0, 0, 0, 0), (29, .getfield 72, 12, 298, 0), (32, .iload_n 1, 0, 0, 0), (33, .iaload, 0, 0, 0), (34, .goto 4, 0, 0, 0)], 37) := rfl
theorem xf12_35_37 : xfind xw12_35.2.2.2.2.2 37 = ([(37, .iconst 0, 0, 0, 0)], 38) := rfl
theorem xf12_35_38 : xfind xw12_35.2.2.2.2.2 38 = ([(38, .ireturn, 0, 0, 0)], 39) := rfl
theorem xf12_39_0 : xfind xw12_39.2.2.2.2.2 0 = ([(0, .aload_n 0, 0, 0, 0), (1, .iconst 0, 0, 0, 0), (2, .putfield 164, 12, 0, 0), (5, .aload_n 0, 0, 0, 0), (6, .iconst 1, 0, 0, 0), (7, .aload_n 0, 0, 0, 0), (8, .getfield 126, 12, 24, 0), (11, .isub, 0, 0, 0), (12, .putfield 177, 12, 120, 0), (15, .aload_n 0, 0, 0, 0), (16, .iconst 0, 0, 0, 0), (17, .putfield 167, 12, 128, 0), (20, .aload_n 0, 0, 0, 0), (21, .iconst (-1), 0, 0, 0), (22, .putfield 170, 12, 136, 0), (25, .aload_n 0, 0, 0, 0), (26, .iconst 0, 0, 0, 0), (27, .putfield 230, 12, 144, 0), (30, .aload_n 0, 0, 0, 0), (31, .iconst 0, 0, 0, 0), (32, .putfield 180, 12, 152, 0), (35, .aload_n 0, 0, 0, 0), (36, .iconst 0, 0, 0, 0), (37, .putfield 254, 12, 160, 0), (40, .aload_n 0, 0, 0, 0), (41, .iconst 0, 0, 0, 0), (42, .putfield 233, 12, 168, 0), (45, .iconst 0, 0, 0, 0), (46, .istore_n 1, 0, 0, 0)], 47) := rfl
theorem xf12_39_47 : xfind xw12_39.2.2.2.2.2 47 = ([(47, .iload_n 1, 0, 0, 0), (48, .bipush 26, 0, 0, 0), (50, .if_icmp .ge 24, 0, 0, 0), (53, .aload_n 0, 0, 0, 0), (54, .getfield 37, 12, 98, 0), (57, .bipush 26, 0, 0, 0), (59, .aload_n 0, 0, 0, 0), (60, .getfield 177, 12, 120, 0), (63, .imul, 0, 0, 0), (64, .iload_n 1, 0, 0, 0), (65, .iadd, 0, 0, 0), (66, .iconst (-1), 0, 0, 0), (67, .iastore, 0, 0, 0), (68, .iinc 1 1, 0, 0, 0), (71, .goto (-24), 0, 0, 0)], 74) := rfl
theorem xf12_39_74 : xfind xw12_39.2.2.2.2.2 74 = ([(74, .aload_n 0, 0, 0, 0), (75, .getfield 170, 12, 136, 0), (78, .iconst (-1), 0, 0, 0), (79, .if_icmp .ne 93, 0, 0, 0), (82, .aload_n 0, 0, 0, 0), (83, .getfield 167, 12, 128, 0), (86, .aload_n 0, 0, 0, 0), (87, .getfield 117, 12, 8, 0), (90, .if_icmp .lt 10, 0, 0, 0), (93, .aload_n 0, 0, 0, 0), (94, .getfield 233, 12, 168, 0), (97, .ifCond .le 75, 0, 0, 0)], 100) := rfl
theorem xf12_39_172 : xfind xw12_39.2.2.2.2.2 172 = ([(172, .aload_n 0, 0, 0, 0), (173, .getfield 117, 12, 8, 0), (176, .istore_n 1, 0, 0, 0), (177, .aload_n 0, 0, 0, 0), (178, .iconst 0, 0, 0, 0), (179, .putfield 117, 12, 8, 0), (182, .aload_n 0, 0, 0, 0), (183, .getfield 170, 12, 136, 0), (186, .iconst (-1), 0, 0, 0), (187, .if_icmp .eq 10, 0, 0, 0), (190, .iconst (-1), 0, 0, 0), (191, .aload_n 0, 0, 0, 0), (192, .getfield 170, 12, 136, 0), (195, .isub, 0, 0, 0), (196, .ireturn, 0, 0, 0)], 197) := rfl
theorem xf12_39_197 : xfind xw12_39.2.2.2.2.2 197 = ([(197, .aload_n 0, 0, 0, 0), (198, .bipush 20, 0, 0, 0), (200, .iconst 0, 0, 0, 0), (201, .invokevirtual 236, 12, 2178, 0), (204, .pop, 0, 0, 0), (205, .iconst 0, 0, 0, 0), (206, .istore_n 2, 0, 0, 0)], 207) := rfl
theorem xf12_39_207 : xfind xw12_39.2.2.2.2.2 207 = ([(207, .iload_n 2, 0, 0, 0), (208, .iload_n 1, 0, 0, 0), (209, .if_icmp .ge 30, 0, 0, 0), (212, .aload_n 0, 0, 0, 0), (213, .getfield 16, 12, 42, 0), (216, .sipush 400, 0, 0, 0), (219, .aload_n 0, 0, 0, 0), (220, .getfield 177, 12, 120, 0), (223, .imul, 0, 0, 0), (224, .iload_n 2, 0, 0, 0), (225, .iadd, 0, 0, 0), (226, .aload_n 0, 0, 0, 0), (227, .getfield 7, 12, 18, 0), (230, .iload_n 2, 0, 0, 0), (231, .iaload, 0, 0, 0), (232, .iastore, 0, 0, 0), (233, .iinc 2 1, 0, 0, 0), (236, .goto (-29), 0, 0, 0)], 239) := rfl
theorem xf12_39_239 : xfind xw12_39.2.2.2.2.2 239 = ([(239, .aload_n 0, 0, 0, 0), (240, .getfield 13, 12, 34, 0), (243, .aload_n 0, 0, 0, 0), (244, .getfield 177, 12, 120, 0), (247, .iload_n 1, 0, 0, 0), (248, .iastore, 0, 0, 0), (249, .aload_n 0, 0, 0, 0), (250, .aload_n 0, 0, 0, 0), (251, .getfield 177, 12, 120, 0), (254, .putfield 126, 12, 24, 0), (257, .aload_n 0, 0, 0, 0), (258, .invokevirtual 129, 12, 1152, 0), (261, .aload_n 0, 0, 0, 0), (262, .getfield 254, 12, 160, 0), (265, .ireturn, 0, 0, 0)], 266) := rfl
theorem xf12_48_0 : xfind xw12_48.2.2.2.2.2 0 = ([(0, .aload_n 0, 0, 0, 0), (1, .lload_n 1, 0, 0, 0), (2, .lconst 1, 0, 0, 0), (3, .lcmp, 0, 0, 0), (4, .ifCond .lt 15, 0, 0, 0), (7, .lload_n 1, 0, 0, 0), (8, .ldc2_w 365, 0, 0, 300), (11, .lcmp, 0, 0, 0), (12, .ifCond .gt 7, 0, 0, 0), (15, .iconst 0, 0, 0, 0), (16, .goto 4, 0, 0, 0)], 19) := rfl
theorem xf12_48_19 : xfind xw12_48.2.2.2.2.2 19 = ([(19, .iconst 1, 0, 0, 0)], 20) := rfl
theorem xf12_48_20 : xfind xw12_48.2.2.2.2.2 20 = ([(20, .putfield 164, 12, 0, 0), (23, .aload_n 0, 0, 0, 0), (24, .getfield 164, 12, 0, 0), (27, .ifCond .eq 5, 0, 0, 0), (30, .iconst 0, 0, 0, 0), (31, .ireturn, 0, 0, 0)], 32) := rfl
theorem xf12_48_32 : xfind xw12_48.2.2.2.2.2 32 = ([(32, .aload_n 0, 0, 0, 0), (33, .invokevirtual 129, 12, 1152, 0), (36, .aload_n 0, 0, 0, 0), (37, .lload_n 1, 0, 0, 0), (38, .putfield 326, 12, 273, 0), (41, .aload_n 0, 0, 0, 0), (42, .iconst 0, 0, 0, 0), (43, .putfield 323, 12, 395, 0), (46, .aload_n 0, 0, 0, 0), (47, .iconst 0, 0, 0, 0), (48, .putfield 320, 12, 400, 0), (51, .aload_n 0, 0, 0, 0), (52, .iconst 0, 0, 0, 0), (53, .putfield 317, 12, 416, 0), (56, .aload_n 0, 0, 0, 0), (57, .iconst 0, 0, 0, 0), (58, .putfield 311, 12, 424, 0), (61, .aload_n 0, 0, 0, 0), (62, .iconst 0, 0, 0, 0), (63, .putfield 308, 12, 440, 0)], 66) := rfl
theorem xf12_48_66 : xfind xw12_48.2.2.2.2.2 66 = ([(66, .aload_n 0, 0, 0, 0), (67, .getfield 323, 12, 395, 0), (70, .ifCond .ne 10, 0, 0, 0), (73, .aload_n 0, 0, 0, 0), (74, .invokevirtual 367, 12, 3520, 0), (77, .goto (-11), 0, 0, 0)], 80) := rfl
theorem xf12_48_80 : xfind xw12_48.2.2.2.2.2 80 = ([(80, .aload_n 0, 0, 0, 0), (81, .getfield 320, 12, 400, 0), (84, .ireturn, 0, 0, 0)], 85) := rfl
theorem xf12_53_0 : xfind xw12_53.2.2.2.2.2 0 = ([(0, .aload_n 0, 0, 0, 0), (1, .getfield 164, 12, 0, 0), (4, .ireturn, 0, 0, 0)], 5) := rfl
theorem xf12_55_0 : xfind xw12_55.2.2.2.2.2 0 = ([(0, .sipush 600, 0, 0, 0), (3, .aload_n 0, 0, 0, 0), (4, .getfield 126, 12, 24, 0), (7, .imul, 0, 0, 0), (8, .aload_n 0, 0, 0, 0), (9, .getfield 317, 12, 416, 0), (12, .iadd, 0, 0, 0), (13, .istore_n 1, 0, 0, 0), (14, .aload_n 0, 0, 0, 0), (15, .getfield 19, 12, 50, 0), (18, .iload_n 1, 0, 0, 0), (19, .iaload, 0, 0, 0), (20, .istore_n 2, 0, 0, 0), (21, .aload_n 0, 0, 0, 0), (22, .dup, 0, 0, 0), (23, .getfield 317, 12, 416, 0), (26, .iconst 1, 0, 0, 0), (27, .iadd, 0, 0, 0), (28, .putfield 317, 12, 416, 0), (31, .iload_n 2, 0, 0, 0), (32, .tableswitch 136 8 20 #[109, 136, 120, 131, 136, 136, 136, 136, 136, 74, 136, 85, 68], 0, 0, 0)], 100) := rfl
theorem xf12_55_100 : xfind xw12_55.2.2.2.2.2 100 = ([(100, .aload_n 0, 0, 0, 0), (101, .iconst 1, 0, 0, 0), (102, .putfield 323, 12, 395, 0), (105, .return_, 0, 0, 0)], 106) := rfl
theorem xf13_3_0 : xfind xw13_3.2.2.2.2.2 0 = ([(0, .aload_n 0, 0, 0, 0), (1, .iconst 2, 0, 0, 0), (2, .invokevirtual 91, 13, 513, 0), (5, .ifCond .ne 5, 0, 0, 0), (8, .iconst 0, 0, 0, 0), (9, .ireturn, 0, 0, 0)], 10) := rfl
theorem xf13_3_10 : xfind xw13_3.2.2.2.2.2 10 = ([(10, .aload_n 0, 0, 0, 0), (11, .iload_n 1, 0, 0, 0), (12, .ifCond .lt 15, 0, 0, 0), (15, .iload_n 1, 0, 0, 0), (16, .aload_n 0, 0, 0, 0), (17, .getfield 64, 13, 40, 0), (20, .if_icmp .gt 7, 0, 0, 0), (23, .iconst 0, 0, 0, 0), (24, .goto 4, 0, 0, 0)], 27) := rfl
theorem xf13_3_28 : xfind xw13_3.2.2.2.2.2 28 = ([(28, .putfield 48, 13, 0, 0), (31, .aload_n 0, 0, 0, 0), (32, .getfield 48, 13, 0, 0), (35, .ifCond .eq 5, 0, 0, 0), (38, .iconst 0, 0, 0, 0), (39, .ireturn, 0, 0, 0)], 40) := rfl
theorem xf13_3_40 : xfind xw13_3.2.2.2.2.2 40 = ([(40, .aload_n 0, 0, 0, 0), (41, .getfield 64, 13, 40, 0), (44, .iload_n 1, 0, 0, 0), (45, .if_icmp .le 7, 0, 0, 0), (48, .iconst 1, 0, 0, 0), (49, .goto 4, 0, 0, 0)], 52) := rfl
theorem xf13_3_52 : xfind xw13_3.2.2.2.2.2 52 = ([(52, .iconst 0, 0, 0, 0)], 53) := rfl
theorem xf13_3_53 : xfind xw13_3.2.2.2.2.2 53 = ([(53, .istore_n 2, 0, 0, 0), (54, .aload_n 0, 0, 0, 0), (55, .iload_n 1, 0, 0, 0), (56, .putfield 64, 13, 40, 0), (59, .aload_n 0, 0, 0, 0), (60, .iconst 0, 0, 0, 0), (61, .putfield 97, 13, 24, 0), (64, .aload_n 0, 0, 0, 0), (65, .iconst 0, 0, 0, 0), (66, .putfield 117, 13, 56, 0), (69, .iconst 0, 0, 0, 0), (70, .istore_n 3, 0, 0, 0)], 71) := rfl
theorem xf13_3_71 : xfind xw13_3.2.2.2.2.2 71 = ([(71, .iload_n 3, 0, 0, 0), (72, .bipush 24, 0, 0, 0), (74, .if_icmp .ge 16, 0, 0, 0), (77, .aload_n 0, 0, 0, 0), (78, .getfield 22, 13, 82, 0), (81, .iload_n 3, 0, 0, 0), (82, .iconst 0, 0, 0, 0), (83, .bastore, 0, 0, 0), (84, .iinc 3 1, 0, 0, 0), (87, .goto (-16), 0, 0, 0)], 90) := rfl
theorem xf13_3_90 : xfind xw13_3.2.2.2.2.2 90 = ([(90, .aload_n 0, 0, 0, 0), (91, .iconst 1, 0, 0, 0), (92, .putfield 84, 13, 19, 0), (95, .iload_n 2, 0, 0, 0), (96, .ireturn, 0, 0, 0)], 97) := rfl
theorem xf13_8_0 : xfind xw13_8.2.2.2.2.2 0 = ([(0, .aload_n 0, 0, 0, 0), (1, .aload_n 0, 0, 0, 0), (2, .getfield 84, 13, 19, 0), (5, .ifCond .eq 7, 0, 0, 0), (8, .iload_n 1, 0, 0, 0), (9, .goto 4, 0, 0, 0)], 12) := rfl
theorem xf13_8_12 : xfind xw13_8.2.2.2.2.2 12 = ([(12, .iconst 0, 0, 0, 0)], 13) := rfl
theorem xf13_8_13 : xfind xw13_8.2.2.2.2.2 13 = ([(13, .putfield 48, 13, 0, 0), (16, .aload_n 0, 0, 0, 0), (17, .getfield 84, 13, 19, 0), (20, .ifCond .ne 7, 0, 0, 0), (23, .aload_n 0, 0, 0, 0), (24, .invokevirtual 88, 13, 1088, 0)], 27) := rfl
theorem xf13_8_27 : xfind xw13_8.2.2.2.2.2 27 = ([(27, .aload_n 0, 0, 0, 0), (28, .getfield 84, 13, 19, 0), (31, .ifCond .ne 7, 0, 0, 0), (34, .iconst 1, 0, 0, 0), (35, .goto 4, 0, 0, 0)], 38) := rfl
theorem xf13_8_39 : xfind xw13_8.2.2.2.2.2 39 = ([(39, .ireturn, 0, 0, 0)], 40) := rfl
theorem xf13_9_0 : xfind xw13_9.2.2.2.2.2 0 = ([(0, .iload_n 1, 0, 0, 0), (1, .ifCond .lt 15, 0, 0, 0), (4, .iload_n 1, 0, 0, 0), (5, .aload_n 0, 0, 0, 0), (6, .getfield 51, 13, 120, 0), (9, .if_icmp .ge 7, 0, 0, 0), (12, .iconst 1, 0, 0, 0), (13, .goto 4, 0, 0, 0)], 16) := rfl
theorem xf13_9_16 : xfind xw13_9.2.2.2.2.2 16 = ([(16, .iconst 0, 0, 0, 0)], 17) := rfl
theorem xf13_9_17 : xfind xw13_9.2.2.2.2.2 17 = ([(17, .ireturn, 0, 0, 0)], 18) := rfl
theorem xf13_10_0 : xfind xw13_10.2.2.2.2.2 0 = ([(0, .aload_n 0, 0, 0, 0), (1, .iconst 2, 0, 0, 0), (2, .invokevirtual 91, 13, 513, 0), (5, .ifCond .ne 5, 0, 0, 0), (8, .iconst 0, 0, 0, 0), (9, .ireturn, 0, 0, 0)], 10) := rfl
theorem xf13_10_10 : xfind xw13_10.2.2.2.2.2 10 = ([(10, .aload_n 0, 0, 0, 0), (11, .aload_n 0, 0, 0, 0), (12, .iload_n 1, 0, 0, 0), (13, .invokevirtual 106, 13, 577, 0), (16, .ifCond .eq 11, 0, 0, 0), (19, .iload_n 2, 0, 0, 0), (20, .ifCond .lt 7, 0, 0, 0), (23, .iconst 0, 0, 0, 0), (24, .goto 4, 0, 0, 0)], 27) := rfl
theorem xf13_10_27 : xfind xw13_10.2.2.2.2.2 27 = ([(27, .iconst 1, 0, 0, 0)], 28) := rfl
theorem xf13_10_28 : xfind xw13_10.2.2.2.2.2 28 = ([(28, .putfield 48, 13, 0, 0), (31, .aload_n 0, 0, 0, 0), (32, .getfield 48, 13, 0, 0), (35, .ifCond .eq 5, 0, 0, 0), (38, .iconst 0, 0, 0, 0), (39, .ireturn, 0, 0, 0)], 40) := rfl
theorem xf13_13_0 : xfind xw13_13.2.2.2.2.2 0 = ([(0, .aload_n 0, 0, 0, 0), (1, .iconst 1, 0, 0, 0), (2, .invokevirtual 91, 13, 513, 0), (5, .ifCond .eq 13, 0, 0, 0), (8, .aload_n 0, 0, 0, 0), (9, .getfield 64, 13, 40, 0), (12, .sipush 400, 0, 0, 0), (15, .if_icmp .ne 5, 0, 0, 0)], 18) := rfl
theorem xf13_13_20 : xfind xw13_13.2.2.2.2.2 20 = ([(20, .aload_n 0, 0, 0, 0), (21, .invokevirtual 71, 13, 896, 0), (24, .aload_n 0, 0, 0, 0), (25, .getfield 54, 13, 160, 0), (28, .istore_n 1, 0, 0, 0), (29, .aload_n 0, 0, 0, 0), (30, .iconst 5, 0, 0, 0), (31, .invokevirtual 103, 13, 1153, 0), (34, .iload_n 1, 0, 0, 0), (35, .ireturn, 0, 0, 0)], 36) := rfl
theorem xf13_14_0 : xfind xw13_14.2.2.2.2.2 0 = ([(0, .aload_n 0, 0, 0, 0), (1, .iconst 0, 0, 0, 0), (2, .putfield 54, 13, 160, 0), (5, .iconst 0, 0, 0, 0), (6, .istore_n 1, 0, 0, 0)], 7) := rfl
theorem xf13_14_7 : xfind xw13_14.2.2.2.2.2 7 = ([(7, .iload_n 1, 0, 0, 0), (8, .aload_n 0, 0, 0, 0), (9, .getfield 57, 13, 88, 0), (12, .if_icmp .ge 46, 0, 0, 0), (15, .aload_n 0, 0, 0, 0), (16, .getfield 32, 13, 114, 0), (19, .iload_n 1, 0, 0, 0), (20, .baload, 0, 0, 0), (21, .ifCond .eq 31, 0, 0, 0), (24, .aload_n 0, 0, 0, 0), (25, .iload_n 1, 0, 0, 0), (26, .invokevirtual 60, 13, 449, 0), (29, .ifCond .eq 6, 0, 0, 0), (32, .goto 20, 0, 0, 0)], 35) := rfl
theorem xf13_14_58 : xfind xw13_14.2.2.2.2.2 58 = ([(58, .return_, 0, 0, 0)], 59) := rfl
theorem xf13_15_0 : xfind xw13_15.2.2.2.2.2 0 = ([(0, .aload_n 0, 0, 0, 0), (1, .getfield 48, 13, 0, 0), (4, .ireturn, 0, 0, 0)], 5) := rfl
theorem xf13_17_0 : xfind xw13_17.2.2.2.2.2 0 = ([(0, .aload_n 0, 0, 0, 0), (1, .iconst 0, 0, 0, 0), (2, .putfield 57, 13, 88, 0), (5, .aload_n 0, 0, 0, 0), (6, .iconst 0, 0, 0, 0), (7, .putfield 51, 13, 120, 0), (10, .aload_n 0, 0, 0, 0), (11, .getfield 35, 13, 130, 0), (14, .iconst 0, 0, 0, 0), (15, .iconst 0, 0, 0, 0), (16, .iastore, 0, 0, 0), (17, .aload_n 0, 0, 0, 0), (18, .getfield 41, 13, 146, 0), (21, .iconst 0, 0, 0, 0), (22, .iconst 0, 0, 0, 0), (23, .bastore, 0, 0, 0), (24, .aload_n 0, 0, 0, 0), (25, .iconst 0, 0, 0, 0), (26, .putfield 74, 13, 152, 0)], 29) := rfl
theorem xf13_17_29 : xfind xw13_17.2.2.2.2.2 29 = ([(29, .aload_n 0, 0, 0, 0), (30, .getfield 74, 13, 152, 0), (33, .aload_n 0, 0, 0, 0), (34, .getfield 64, 13, 40, 0), (37, .if_icmp .ge 51, 0, 0, 0), (40, .aload_n 0, 0, 0, 0), (41, .getfield 74, 13, 152, 0), (44, .aload_n 0, 0, 0, 0), (45, .aload_n 0, 0, 0, 0), (46, .getfield 74, 13, 152, 0), (49, .invokevirtual 77, 13, 769, 0), (52, .iadd, 0, 0, 0), (53, .aload_n 0, 0, 0, 0), (54, .getfield 64, 13, 40, 0), (57, .if_icmp .gt 31, 0, 0, 0), (60, .aload_n 0, 0, 0, 0), (61, .aload_n 0, 0, 0, 0), (62, .getfield 74, 13, 152, 0), (65, .invokevirtual 81, 13, 1, 0), (68, .aload_n 0, 0, 0, 0), (69, .dup, 0, 0, 0), (70, .getfield 74, 13, 152, 0), (73, .aload_n 0, 0, 0, 0), (74, .aload_n 0, 0, 0, 0), (75, .getfield 74, 13, 152, 0), (78, .invokevirtual 77, 13, 769, 0), (81, .iadd, 0, 0, 0), (82, .putfield 74, 13, 152, 0), (85, .goto (-56), 0, 0, 0)], 88) := rfl
theorem xf13_17_88 : xfind xw13_17.2.2.2.2.2 88 = ([(88, .return_, 0, 0, 0)], 89) := rfl
theorem xf13_18_0 : xfind xw13_18.2.2.2.2.2 0 = ([(0, .aload_n 0, 0, 0, 0), (1, .getfield 13, 13, 50, 0), (4, .aload_n 0, 0, 0, 0), (5, .getfield 64, 13, 40, 0), (8, .iload_n 1, 0, 0, 0), (9, .iastore, 0, 0, 0), (10, .aload_n 0, 0, 0, 0), (11, .dup, 0, 0, 0), (12, .getfield 64, 13, 40, 0), (15, .iconst 1, 0, 0, 0), (16, .iadd, 0, 0, 0), (17, .putfield 64, 13, 40, 0), (20, .return_, 0, 0, 0)], 21) := rfl
theorem xf19_0_0 : xfind xw19_0.2.2.2.2.2 0 = ([(0, .aload_n 0, 0, 0, 0), (1, .aload_n 0, 0, 0, 0), (2, .iload_n 1, 0, 0, 0), (3, .invokevirtual 175, 19, 1153, 0), (6, .ifCond .ne 7, 0, 0, 0), (9, .iconst 1, 0, 0, 0), (10, .goto 27, 0, 0, 0)], 13) := rfl
theorem xf19_0_37 : xfind xw19_0.2.2.2.2.2 37 = ([(37, .putfield 146, 19, 0, 0), (40, .aload_n 0, 0, 0, 0), (41, .getfield 146, 19, 0, 0), (44, .ifCond .eq 5, 0, 0, 0), (47, .iconst 0, 0, 0, 0), (48, .ireturn, 0, 0, 0)], 49) := rfl
theorem xf19_17_0 : xfind xw19_17.2.2.2.2.2 0 = ([(0, .aload_n 0, 0, 0, 0), (1, .iload_n 1, 0, 0, 0), (2, .invokevirtual 175, 19, 1153, 0), (5, .ifCond .eq 21, 0, 0, 0), (8, .iload_n 2, 0, 0, 0), (9, .ifCond .lt 17, 0, 0, 0), (12, .iload_n 2, 0, 0, 0), (13, .aload_n 0, 0, 0, 0), (14, .getfield 28, 19, 74, 0), (17, .iload_n 1, 0, 0, 0), (18, .iaload, 0, 0, 0), (19, .if_icmp .ge 7, 0, 0, 0), (22, .iconst 1, 0, 0, 0), (23, .goto 4, 0, 0, 0)], 26) := rfl
theorem xf19_17_26 : xfind xw19_17.2.2.2.2.2 26 = ([(26, .iconst 0, 0, 0, 0)], 27) := rfl
theorem xf19_17_27 : xfind xw19_17.2.2.2.2.2 27 = ([(27, .ireturn, 0, 0, 0)], 28) := rfl
theorem xf19_18_0 : xfind xw19_18.2.2.2.2.2 0 = ([(0, .iload_n 1, 0, 0, 0), (1, .ifCond .lt 15, 0, 0, 0), (4, .iload_n 1, 0, 0, 0), (5, .aload_n 0, 0, 0, 0), (6, .getfield 172, 19, 64, 0), (9, .if_icmp .ge 7, 0, 0, 0), (12, .iconst 1, 0, 0, 0), (13, .goto 4, 0, 0, 0)], 16) := rfl
theorem xf19_18_16 : xfind xw19_18.2.2.2.2.2 16 = ([(16, .iconst 0, 0, 0, 0)], 17) := rfl
theorem xf19_18_17 : xfind xw19_18.2.2.2.2.2 17 = ([(17, .ireturn, 0, 0, 0)], 18) := rfl
theorem xf19_24_0 : xfind xw19_24.2.2.2.2.2 0 = ([(0, .aload_n 0, 0, 0, 0), (1, .aload_n 0, 0, 0, 0), (2, .iload_n 1, 0, 0, 0), (3, .iload_n 2, 0, 0, 0), (4, .invokevirtual 218, 19, 1090, 0), (7, .ifCond .eq 11, 0, 0, 0), (10, .iload_n 3, 0, 0, 0), (11, .ifCond .lt 7, 0, 0, 0), (14, .iconst 0, 0, 0, 0), (15, .goto 4, 0, 0, 0)], 18) := rfl
theorem xf19_24_18 : xfind xw19_24.2.2.2.2.2 18 = ([(18, .iconst 1, 0, 0, 0)], 19) := rfl
theorem xf19_24_19 : xfind xw19_24.2.2.2.2.2 19 = ([(19, .putfield 146, 19, 0, 0), (22, .aload_n 0, 0, 0, 0), (23, .getfield 146, 19, 0, 0), (26, .ifCond .eq 5, 0, 0, 0), (29, .iconst 0, 0, 0, 0), (30, .ireturn, 0, 0, 0)], 31) := rfl
theorem xf19_27_0 : xfind xw19_27.2.2.2.2.2 0 = ([(0, .aload_n 0, 0, 0, 0), (1, .aload_n 0, 0, 0, 0), (2, .iload_n 1, 0, 0, 0), (3, .invokevirtual 175, 19, 1153, 0), (6, .ifCond .eq 17, 0, 0, 0), (9, .iload_n 2, 0, 0, 0), (10, .ifCond .lt 13, 0, 0, 0), (13, .iload_n 2, 0, 0, 0), (14, .bipush 32, 0, 0, 0), (16, .if_icmp .ge 7, 0, 0, 0), (19, .iconst 0, 0, 0, 0), (20, .goto 4, 0, 0, 0)], 23) := rfl
theorem xf19_27_23 : xfind xw19_27.2.2.2.2.2 23 = ([(23, .iconst 1, 0, 0, 0)], 24) := rfl
theorem xf19_27_24 : xfind xw19_27.2.2.2.2.2 24 = ([(24, .putfield 146, 19, 0, 0), (27, .aload_n 0, 0, 0, 0), (28, .getfield 146, 19, 0, 0), (31, .ifCond .ne 17, 0, 0, 0), (34, .aload_n 0, 0, 0, 0), (35, .getfield 43, 19, 114, 0), (38, .bipush 32, 0, 0, 0), (40, .iload_n 1, 0, 0, 0), (41, .imul, 0, 0, 0), (42, .iload_n 2, 0, 0, 0), (43, .iadd, 0, 0, 0), (44, .iaload, 0, 0, 0), (45, .goto 4, 0, 0, 0)], 48) := rfl
theorem xf19_27_48 : xfind xw19_27.2.2.2.2.2 48 = ([(48, .iconst 0, 0, 0, 0)], 49) := rfl
theorem xf19_27_49 : xfind xw19_27.2.2.2.2.2 49 = ([(49, .ireturn, 0, 0, 0)], 50) := rfl
theorem xf19_33_0 : xfind xw19_33.2.2.2.2.2 0 = ([(0, .aload_n 0, 0, 0, 0), (1, .getfield 146, 19, 0, 0), (4, .ireturn, 0, 0, 0)], 5) := rfl
theorem xf19_35_0 : xfind xw19_35.2.2.2.2.2 0 = ([(0, .aload_n 0, 0, 0, 0), (1, .aload_n 0, 0, 0, 0), (2, .iload_n 1, 0, 0, 0), (3, .invokevirtual 175, 19, 1153, 0), (6, .ifCond .eq 7, 0, 0, 0), (9, .iconst 0, 0, 0, 0), (10, .goto 4, 0, 0, 0)], 13) := rfl
theorem xf19_35_13 : xfind xw19_35.2.2.2.2.2 13 = ([(13, .iconst 1, 0, 0, 0)], 14) := rfl
theorem xf19_35_14 : xfind xw19_35.2.2.2.2.2 14 = ([(14, .putfield 146, 19, 0, 0), (17, .aload_n 0, 0, 0, 0), (18, .getfield 146, 19, 0, 0), (21, .ifCond .eq 5, 0, 0, 0), (24, .iconst 0, 0, 0, 0), (25, .ireturn, 0, 0, 0)], 26) := rfl
theorem xf21_0_0 : xfind xw21_0.2.2.2.2.2 0 = ([(0, .aload_n 0, 0, 0, 0), (1, .getfield 341, 21, 250, 0), (4, .ifnonnull 5, 0, 0, 0), (7, .iconst (-1), 0, 0, 0), (8, .ireturn, 0, 0, 0)], 9) := rfl
theorem xf21_1_0 : xfind xw21_1.2.2.2.2.2 0 = ([(0, .aload_n 0, 0, 0, 0), (1, .getfield 104, 21, 402, 0), (4, .iload_n 1, 0, 0, 0), (5, .iload_n 2, 0, 0, 0), (6, .iload_n 3, 0, 0, 0), (7, .invokevirtual 611, 19, 3, 0), (10, .istore 4, 0, 0, 0), (12, .aload_n 0, 0, 0, 0), (13, .getfield 104, 21, 402, 0), (16, .invokevirtual 614, 19, 2112, 0), (19, .ifCond .ne 12, 0, 0, 0), (22, .aload_n 0, 0, 0, 0), (23, .iload 4, 0, 0, 0), (25, .invokevirtual 152, 21, 769, 0), (28, .goto 8, 0, 0, 0)], 31) := rfl
theorem xf21_1_31 : xfind xw21_1.2.2.2.2.2 31 = ([(31, .aload_n 0, 0, 0, 0), (32, .iconst 2, 0, 0, 0), (33, .invokevirtual 121, 21, 3009, 0)], 36) := rfl
theorem xf21_1_36 : xfind xw21_1.2.2.2.2.2 36 = ([(36, .ireturn, 0, 0, 0)], 37) := rfl
theorem xf21_2_0 : xfind xw21_2.2.2.2.2.2 0 = ([(0, .aload_n 0, 0, 0, 0), (1, .aload_n 0, 0, 0, 0), (2, .getfield 252, 21, 98, 0), (5, .ifnonnull 7, 0, 0, 0), (8, .iconst 3, 0, 0, 0), (9, .goto 22, 0, 0, 0)], 12) := rfl
theorem xf21_2_31 : xfind xw21_2.2.2.2.2.2 31 = ([(31, .invokevirtual 114, 21, 3073, 0), (34, .ifCond .eq 5, 0, 0, 0), (37, .iconst 0, 0, 0, 0), (38, .ireturn, 0, 0, 0)], 39) := rfl
theorem xf21_3_0 : xfind xw21_3.2.2.2.2.2 0 = ([(0, .aload_n 0, 0, 0, 0), (1, .getfield 252, 21, 98, 0), (4, .ifnonnull 5, 0, 0, 0), (7, .iconst (-1), 0, 0, 0), (8, .ireturn, 0, 0, 0)], 9) := rfl
theorem xf21_4_0 : xfind xw21_4.2.2.2.2.2 0 = ([(0, .aload_n 0, 0, 0, 0), (1, .getfield 144, 21, 58, 0), (4, .ifnonnull 9, 0, 0, 0), (7, .aload_n 0, 0, 0, 0), (8, .iconst 3, 0, 0, 0), (9, .invokevirtual 121, 21, 3009, 0), (12, .ireturn, 0, 0, 0)], 13) := rfl
theorem xf21_5_0 : xfind xw21_5.2.2.2.2.2 0 = ([(0, .aload_n 0, 0, 0, 0), (1, .getfield 104, 21, 402, 0), (4, .iload_n 1, 0, 0, 0), (5, .iload_n 2, 0, 0, 0), (6, .invokevirtual 633, 19, 1090, 0), (9, .ifCond .ne 5, 0, 0, 0), (12, .iconst (-1), 0, 0, 0), (13, .ireturn, 0, 0, 0)], 14) := rfl
theorem xf21_6_0 : xfind xw21_6.2.2.2.2.2 0 = ([(0, .aload_n 0, 0, 0, 0), (1, .getfield 341, 21, 250, 0), (4, .ifnonnull 5, 0, 0, 0), (7, .iconst (-1), 0, 0, 0), (8, .ireturn, 0, 0, 0)], 9) := rfl
theorem xf21_7_0 : xfind xw21_7.2.2.2.2.2 0 = ([(0, .aload_n 0, 0, 0, 0), (1, .aload_n 0, 0, 0, 0), (2, .getfield 252, 21, 98, 0), (5, .ifnonnull 7, 0, 0, 0), (8, .iconst 3, 0, 0, 0), (9, .goto 4, 0, 0, 0)], 12) := rfl
theorem xf21_7_13 : xfind xw21_7.2.2.2.2.2 13 = ([(13, .invokevirtual 114, 21, 3073, 0), (16, .ifCond .eq 5, 0, 0, 0), (19, .iconst 0, 0, 0, 0), (20, .ireturn, 0, 0, 0)], 21) := rfl
theorem xf21_8_0 : xfind xw21_8.2.2.2.2.2 0 = ([(0, .aload_n 0, 0, 0, 0), (1, .getfield 252, 21, 98, 0), (4, .ifnonnull 7, 0, 0, 0), (7, .ldc2_w 294, 0, 0, -1), (10, .lreturn, 0, 0, 0)], 11) := rfl
theorem xf21_9_0 : xfind xw21_9.2.2.2.2.2 0 = ([(0, .aload_n 0, 0, 0, 0), (1, .aload_n 0, 0, 0, 0), (2, .getfield 97, 21, 386, 0), (5, .getfield 549, 13, 19, 0), (8, .ifCond .eq 7, 0, 0, 0), (11, .iconst 3, 0, 0, 0), (12, .goto 36, 0, 0, 0)], 15) := rfl
theorem xf21_9_15 : xfind xw21_9.2.2.2.2.2 15 = ([(15, .iload_n 1, 0, 0, 0), (16, .ifCond .lt 14, 0, 0, 0), (19, .iload_n 1, 0, 0, 0), (20, .aload_n 0, 0, 0, 0), (21, .getfield 97, 21, 386, 0), (24, .getfield 540, 13, 40, 0), (27, .if_icmp .le 7, 0, 0, 0)], 30) := rfl
theorem xf21_9_30 : xfind xw21_9.2.2.2.2.2 30 = ([(30, .iconst 2, 0, 0, 0), (31, .goto 17, 0, 0, 0)], 34) := rfl
theorem xf21_9_34 : xfind xw21_9.2.2.2.2.2 34 = ([(34, .aload_n 0, 0, 0, 0), (35, .getfield 574, 21, 392, 0), (38, .bipush 16, 0, 0, 0), (40, .if_icmp .ne 7, 0, 0, 0), (43, .iconst 1, 0, 0, 0), (44, .goto 4, 0, 0, 0)], 47) := rfl
theorem xf21_9_47 : xfind xw21_9.2.2.2.2.2 47 = ([(47, .iconst 0, 0, 0, 0)], 48) := rfl
theorem xf21_9_48 : xfind xw21_9.2.2.2.2.2 48 = ([(48, .invokevirtual 114, 21, 3073, 0), (51, .ifCond .eq 5, 0, 0, 0), (54, .iconst 0, 0, 0, 0), (55, .ireturn, 0, 0, 0)], 56) := rfl
theorem xf21_9_56 : xfind xw21_9.2.2.2.2.2 56 = ([(56, .aload_n 0, 0, 0, 0), (57, .dup, 0, 0, 0), (58, .getfield 574, 21, 392, 0), (61, .iconst 1, 0, 0, 0), (62, .iadd, 0, 0, 0), (63, .putfield 574, 21, 392, 0), (66, .aload_n 0, 0, 0, 0), (67, .getfield 97, 21, 386, 0), (70, .iload_n 1, 0, 0, 0), (71, .invokevirtual 577, 13, 193, 0), (74, .istore_n 2, 0, 0, 0), (75, .iconst 1, 0, 0, 0), (76, .ireturn, 0, 0, 0)], 77) := rfl
theorem xf21_10_0 : xfind xw21_10.2.2.2.2.2 0 = ([(0, .aload_n 0, 0, 0, 0), (1, .getfield 252, 21, 98, 0), (4, .ifnonnull 9, 0, 0, 0), (7, .aload_n 0, 0, 0, 0), (8, .iconst 3, 0, 0, 0), (9, .invokevirtual 121, 21, 3009, 0), (12, .ireturn, 0, 0, 0)], 13) := rfl
theorem xf21_11_0 : xfind xw21_11.2.2.2.2.2 0 = ([(0, .aload_n 0, 0, 0, 0), (1, .getfield 90, 21, 378, 0), (4, .iload_n 1, 0, 0, 0), (5, .invokevirtual 519, 12, 129, 0), (8, .ireturn, 0, 0, 0)], 9) := rfl
theorem xf21_12_0 : xfind xw21_12.2.2.2.2.2 0 = ([(0, .aload_n 0, 0, 0, 0), (1, .iconst 0, 0, 0, 0), (2, .putfield 108, 21, 0, 0), (5, .iload_n 1, 0, 0, 0), (6, .ireturn, 0, 0, 0)], 7) := rfl
theorem xf21_14_0 : xfind xw21_14.2.2.2.2.2 0 = ([(0, .aload_n 0, 0, 0, 0), (1, .getfield 341, 21, 250, 0), (4, .ifnull 17, 0, 0, 0), (7, .iload_n 1, 0, 0, 0), (8, .ifCond .lt 13, 0, 0, 0), (11, .iload_n 1, 0, 0, 0), (12, .bipush 6, 0, 0, 0), (14, .if_icmp .gt 7, 0, 0, 0), (17, .iload_n 2, 0, 0, 0), (18, .ifCond .ge 5, 0, 0, 0)], 21) := rfl
theorem xf21_14_21 : xfind xw21_14.2.2.2.2.2 21 = ([(21, .iconst (-1), 0, 0, 0), (22, .ireturn, 0, 0, 0)], 23) := rfl
theorem xf21_15_0 : xfind xw21_15.2.2.2.2.2 0 = ([(0, .aload_n 0, 0, 0, 0), (1, .aload_n 0, 0, 0, 0), (2, .getfield 97, 21, 386, 0), (5, .getfield 549, 13, 19, 0), (8, .ifCond .eq 7, 0, 0, 0), (11, .iconst 3, 0, 0, 0), (12, .goto 4, 0, 0, 0)], 15) := rfl
theorem xf21_15_15 : xfind xw21_15.2.2.2.2.2 15 = ([(15, .iconst 0, 0, 0, 0)], 16) := rfl
theorem xf21_15_16 : xfind xw21_15.2.2.2.2.2 16 = ([(16, .invokevirtual 114, 21, 3073, 0), (19, .ifCond .eq 5, 0, 0, 0), (22, .iconst 0, 0, 0, 0), (23, .ireturn, 0, 0, 0)], 24) := rfl
theorem xf21_15_24 : xfind xw21_15.2.2.2.2.2 24 = ([(24, .aload_n 0, 0, 0, 0), (25, .getfield 97, 21, 386, 0), (28, .invokevirtual 528, 13, 1088, 0), (31, .aload_n 0, 0, 0, 0), (32, .aload_n 0, 0, 0, 0), (33, .getfield 97, 21, 386, 0), (36, .iload_n 1, 0, 0, 0), (37, .invokevirtual 562, 13, 577, 0), (40, .ifCond .ne 7, 0, 0, 0), (43, .iconst 2, 0, 0, 0), (44, .goto 20, 0, 0, 0)], 47) := rfl
theorem xf21_15_64 : xfind xw21_15.2.2.2.2.2 64 = ([(64, .invokevirtual 114, 21, 3073, 0), (67, .ifCond .eq 5, 0, 0, 0), (70, .iconst 0, 0, 0, 0), (71, .ireturn, 0, 0, 0)], 72) := rfl
theorem xf21_16_0 : xfind xw21_16.2.2.2.2.2 0 = ([(0, .aload_n 0, 0, 0, 0), (1, .iload_n 1, 0, 0, 0), (2, .ifCond .lt 11, 0, 0, 0), (5, .iload_n 1, 0, 0, 0), (6, .aload_n 0, 0, 0, 0), (7, .getfield 111, 21, 16, 0), (10, .if_icmp .le 7, 0, 0, 0)], 13) := rfl
theorem xf21_16_13 : xfind xw21_16.2.2.2.2.2 13 = ([(13, .iconst 2, 0, 0, 0), (14, .goto 4, 0, 0, 0)], 17) := rfl
theorem xf21_16_17 : xfind xw21_16.2.2.2.2.2 17 = ([(17, .iconst 0, 0, 0, 0)], 18) := rfl
theorem xf21_16_18 : xfind xw21_16.2.2.2.2.2 18 = ([(18, .invokevirtual 114, 21, 3073, 0), (21, .ifCond .eq 5, 0, 0, 0), (24, .iconst 0, 0, 0, 0), (25, .ireturn, 0, 0, 0)], 26) := rfl
theorem xf21_16_26 : xfind xw21_16.2.2.2.2.2 26 = ([(26, .aload_n 0, 0, 0, 0), (27, .iload_n 1, 0, 0, 0), (28, .putfield 111, 21, 16, 0), (31, .iconst 1, 0, 0, 0), (32, .ireturn, 0, 0, 0)], 33) := rfl
theorem xf21_17_0 : xfind xw21_17.2.2.2.2.2 0 = ([(0, .aload_n 0, 0, 0, 0), (1, .getfield 90, 21, 378, 0), (4, .iload_n 1, 0, 0, 0), (5, .invokevirtual 516, 12, 961, 0), (8, .istore_n 2, 0, 0, 0), (9, .aload_n 0, 0, 0, 0), (10, .getfield 90, 21, 378, 0), (13, .invokevirtual 510, 12, 3392, 0), (16, .ifCond .ne 7, 0, 0, 0), (19, .iload_n 2, 0, 0, 0), (20, .goto 4, 0, 0, 0)], 23) := rfl
theorem xf21_17_23 : xfind xw21_17.2.2.2.2.2 23 = ([(23, .iconst (-1), 0, 0, 0)], 24) := rfl
theorem xf21_17_24 : xfind xw21_17.2.2.2.2.2 24 = ([(24, .ireturn, 0, 0, 0)], 25) := rfl
theorem xf21_18_0 : xfind xw21_18.2.2.2.2.2 0 = ([(0, .aload_n 0, 0, 0, 0), (1, .getfield 341, 21, 250, 0), (4, .ifnull 14, 0, 0, 0), (7, .aload_n 0, 0, 0, 0), (8, .getfield 443, 21, 275, 0), (11, .ifCond .eq 7, 0, 0, 0), (14, .iconst 1, 0, 0, 0), (15, .goto 4, 0, 0, 0)], 18) := rfl
theorem xf21_18_18 : xfind xw21_18.2.2.2.2.2 18 = ([(18, .iconst 0, 0, 0, 0)], 19) := rfl
theorem xf21_18_19 : xfind xw21_18.2.2.2.2.2 19 = ([(19, .ireturn, 0, 0, 0)], 20) := rfl
theorem xf21_20_0 : xfind xw21_20.2.2.2.2.2 0 = ([(0, .aload_n 0, 0, 0, 0), (1, .aload_n 0, 0, 0, 0), (2, .getfield 252, 21, 98, 0), (5, .ifnonnull 7, 0, 0, 0), (8, .iconst 3, 0, 0, 0), (9, .goto 4, 0, 0, 0)], 12) := rfl
theorem xf21_20_13 : xfind xw21_20.2.2.2.2.2 13 = ([(13, .invokevirtual 114, 21, 3073, 0), (16, .ifCond .eq 5, 0, 0, 0), (19, .iconst 0, 0, 0, 0), (20, .ireturn, 0, 0, 0)], 21) := rfl
theorem xf21_21_0 : xfind xw21_21.2.2.2.2.2 0 = ([(0, .aload_n 0, 0, 0, 0), (1, .aload_n 0, 0, 0, 0), (2, .getfield 111, 21, 16, 0), (5, .bipush 20, 0, 0, 0), (7, .iadd, 0, 0, 0), (8, .sipush 4000, 0, 0, 0), (11, .if_icmp .le 7, 0, 0, 0), (14, .iconst 1, 0, 0, 0), (15, .goto 4, 0, 0, 0)], 18) := rfl
theorem xf21_21_18 : xfind xw21_21.2.2.2.2.2 18 = ([(18, .iconst 0, 0, 0, 0)], 19) := rfl
theorem xf21_21_19 : xfind xw21_21.2.2.2.2.2 19 = ([(19, .invokevirtual 114, 21, 3073, 0), (22, .ifCond .eq 5, 0, 0, 0), (25, .iconst 0, 0, 0, 0), (26, .ireturn, 0, 0, 0)], 27) := rfl
theorem xf21_21_27 : xfind xw21_21.2.2.2.2.2 27 = ([(27, .aload_n 0, 0, 0, 0), (28, .iload_n 1, 0, 0, 0), (29, .invokevirtual 118, 21, 2177, 0), (32, .aload_n 0, 0, 0, 0), (33, .iload_n 2, 0, 0, 0), (34, .invokevirtual 118, 21, 2177, 0), (37, .aload_n 0, 0, 0, 0), (38, .iload_n 3, 0, 0, 0), (39, .invokevirtual 118, 21, 2177, 0), (42, .aload_n 0, 0, 0, 0), (43, .iload 4, 0, 0, 0), (45, .invokevirtual 118, 21, 2177, 0), (48, .aload_n 0, 0, 0, 0), (49, .iload 5, 0, 0, 0), (51, .invokevirtual 118, 21, 2177, 0), (54, .iconst 1, 0, 0, 0), (55, .ireturn, 0, 0, 0)], 56) := rfl
theorem xf21_33_0 : xfind xw21_33.2.2.2.2.2 0 = ([(0, .aload_n 0, 0, 0, 0), (1, .getfield 22, 21, 32, 0), (4, .iconst (-1), 0, 0, 0), (5, .if_icmp .ne 5, 0, 0, 0), (8, .iconst (-1), 0, 0, 0), (9, .ireturn, 0, 0, 0)], 10) := rfl
theorem xf21_34_0 : xfind xw21_34.2.2.2.2.2 0 = ([(0, .bipush 24, 0, 0, 0), (2, .istore_n 2, 0, 0, 0)], 3) := rfl
theorem xf21_34_3 : xfind xw21_34.2.2.2.2.2 3 = ([(3, .iload_n 2, 0, 0, 0), (4, .ifCond .lt 35, 0, 0, 0), (7, .aload_n 0, 0, 0, 0), (8, .getfield 7, 21, 10, 0), (11, .aload_n 0, 0, 0, 0), (12, .getfield 111, 21, 16, 0), (15, .iload_n 1, 0, 0, 0), (16, .iload_n 2, 0, 0, 0), (17, .ishr, 0, 0, 0), (18, .sipush 255, 0, 0, 0), (21, .iand, 0, 0, 0), (22, .iastore, 0, 0, 0), (23, .aload_n 0, 0, 0, 0), (24, .dup, 0, 0, 0), (25, .getfield 111, 21, 16, 0), (28, .iconst 1, 0, 0, 0), (29, .iadd, 0, 0, 0), (30, .putfield 111, 21, 16, 0), (33, .iinc 2 (-8), 0, 0, 0), (36, .goto (-33), 0, 0, 0)], 39) := rfl
theorem xf21_34_39 : xfind xw21_34.2.2.2.2.2 39 = ([(39, .return_, 0, 0, 0)], 40) := rfl
theorem xf21_36_0 : xfind xw21_36.2.2.2.2.2 0 = ([(0, .aload_n 0, 0, 0, 0), (1, .getfield 252, 21, 98, 0), (4, .ifnull 13, 0, 0, 0), (7, .aload_n 0, 0, 0, 0), (8, .getfield 97, 21, 386, 0), (11, .getfield 549, 13, 19, 0), (14, .ifCond .eq 9, 0, 0, 0)], 17) := rfl
theorem xf21_36_17 : xfind xw21_36.2.2.2.2.2 17 = ([(17, .aload_n 0, 0, 0, 0), (18, .iconst 3, 0, 0, 0), (19, .invokevirtual 121, 21, 3009, 0), (22, .ireturn, 0, 0, 0)], 23) := rfl
theorem xf21_37_0 : xfind xw21_37.2.2.2.2.2 0 = ([(0, .aload_n 0, 0, 0, 0), (1, .getfield 144, 21, 58, 0), (4, .ifnonnull 7, 0, 0, 0), (7, .sipush (-1000), 0, 0, 0), (10, .ireturn, 0, 0, 0)], 11) := rfl
theorem xf21_38_0 : xfind xw21_38.2.2.2.2.2 0 = ([(0, .aload_n 0, 0, 0, 0), (1, .getfield 144, 21, 58, 0), (4, .ifnonnull 5, 0, 0, 0), (7, .iconst (-1), 0, 0, 0), (8, .ireturn, 0, 0, 0)], 9) := rfl
theorem xf21_39_0 : xfind xw21_39.2.2.2.2.2 0 = ([(0, .aload_n 0, 0, 0, 0), (1, .getfield 144, 21, 58, 0), (4, .ifnonnull 7, 0, 0, 0), (7, .iconst 0, 0, 0, 0), (8, .goto 10, 0, 0, 0)], 11) := rfl
theorem xf21_39_18 : xfind xw21_39.2.2.2.2.2 18 = ([(18, .ireturn, 0, 0, 0)], 19) := rfl
theorem xf21_41_0 : xfind xw21_41.2.2.2.2.2 0 = ([(0, .aload_n 0, 0, 0, 0), (1, .getfield 22, 21, 32, 0), (4, .iconst (-1), 0, 0, 0), (5, .if_icmp .ne 5, 0, 0, 0), (8, .lconst 0, 0, 0, 0), (9, .lreturn, 0, 0, 0)], 10) := rfl
theorem xf21_42_0 : xfind xw21_42.2.2.2.2.2 0 = ([(0, .aload_n 0, 0, 0, 0), (1, .getfield 90, 21, 378, 0), (4, .iload_n 1, 0, 0, 0), (5, .invokevirtual 511, 12, 2241, 0), (8, .istore_n 2, 0, 0, 0), (9, .aload_n 0, 0, 0, 0), (10, .getfield 90, 21, 378, 0), (13, .invokevirtual 510, 12, 3392, 0), (16, .ifCond .ne 8, 0, 0, 0), (19, .iload_n 2, 0, 0, 0), (20, .i2l, 0, 0, 0), (21, .goto 6, 0, 0, 0)], 24) := rfl
theorem xf21_42_24 : xfind xw21_42.2.2.2.2.2 24 = ([(24, .ldc2_w 514, 0, 0, 1099511627776)], 27) := rfl
theorem xf21_42_27 : xfind xw21_42.2.2.2.2.2 27 = ([(27, .lreturn, 0, 0, 0)], 28) := rfl
theorem xf21_44_0 : xfind xw21_44.2.2.2.2.2 0 = ([(0, .iconst 0, 0, 0, 0), (1, .istore_n 1, 0, 0, 0), (2, .iconst 0, 0, 0, 0), (3, .istore_n 2, 0, 0, 0)], 4) := rfl
theorem xf21_44_4 : xfind xw21_44.2.2.2.2.2 4 = ([(4, .iload_n 2, 0, 0, 0), (5, .aload_n 0, 0, 0, 0), (6, .getfield 111, 21, 16, 0), (9, .if_icmp .ge 33, 0, 0, 0), (12, .iload_n 1, 0, 0, 0), (13, .aload_n 0, 0, 0, 0), (14, .getfield 90, 21, 378, 0), (17, .aload_n 0, 0, 0, 0), (18, .getfield 7, 21, 10, 0), (21, .iload_n 2, 0, 0, 0), (22, .iaload, 0, 0, 0), (23, .invokevirtual 488, 12, 3457, 0), (26, .ifCond .eq 7, 0, 0, 0), (29, .iconst 0, 0, 0, 0), (30, .goto 4, 0, 0, 0)], 33) := rfl
theorem xf21_44_42 : xfind xw21_44.2.2.2.2.2 42 = ([(42, .aload_n 0, 0, 0, 0), (43, .iconst 0, 0, 0, 0), (44, .putfield 111, 21, 16, 0), (47, .aload_n 0, 0, 0, 0), (48, .getfield 90, 21, 378, 0), (51, .invokevirtual 489, 12, 2496, 0), (54, .istore_n 2, 0, 0, 0), (55, .aload_n 0, 0, 0, 0), (56, .iload_n 2, 0, 0, 0), (57, .ifCond .ge 7, 0, 0, 0), (60, .iconst 2, 0, 0, 0), (61, .goto 4, 0, 0, 0)], 64) := rfl
theorem xf21_44_64 : xfind xw21_44.2.2.2.2.2 64 = ([(64, .iconst 0, 0, 0, 0)], 65) := rfl
theorem xf21_44_65 : xfind xw21_44.2.2.2.2.2 65 = ([(65, .putfield 108, 21, 0, 0), (68, .iload_n 2, 0, 0, 0), (69, .ifCond .ge 9, 0, 0, 0), (72, .iload_n 2, 0, 0, 0), (73, .iconst 1, 0, 0, 0), (74, .isub, 0, 0, 0), (75, .goto 4, 0, 0, 0)], 78) := rfl
theorem xf21_44_78 : xfind xw21_44.2.2.2.2.2 78 = ([(78, .iload_n 2, 0, 0, 0)], 79) := rfl
theorem xf21_44_79 : xfind xw21_44.2.2.2.2.2 79 = ([(79, .ireturn, 0, 0, 0)], 80) := rfl
theorem xf21_45_0 : xfind xw21_45.2.2.2.2.2 0 = ([(0, .aload_n 0, 0, 0, 0), (1, .getfield 104, 21, 402, 0), (4, .iload_n 1, 0, 0, 0), (5, .iload_n 2, 0, 0, 0), (6, .iload_n 3, 0, 0, 0), (7, .invokevirtual 630, 19, 1539, 0), (10, .istore 4, 0, 0, 0), (12, .aload_n 0, 0, 0, 0), (13, .getfield 104, 21, 402, 0), (16, .invokevirtual 614, 19, 2112, 0), (19, .ifCond .ne 8, 0, 0, 0), (22, .iload 4, 0, 0, 0), (24, .goto 4, 0, 0, 0)], 27) := rfl
theorem xf21_45_27 : xfind xw21_45.2.2.2.2.2 27 = ([(27, .iconst (-1), 0, 0, 0)], 28) := rfl
theorem xf21_45_28 : xfind xw21_45.2.2.2.2.2 28 = ([(28, .ireturn, 0, 0, 0)], 29) := rfl
theorem xf21_46_0 : xfind xw21_46.2.2.2.2.2 0 = ([(0, .aload_n 0, 0, 0, 0), (1, .getfield 252, 21, 98, 0), (4, .ifnonnull 9, 0, 0, 0), (7, .aload_n 0, 0, 0, 0), (8, .iconst 3, 0, 0, 0), (9, .invokevirtual 121, 21, 3009, 0), (12, .ireturn, 0, 0, 0)], 13) := rfl
theorem xf21_47_0 : xfind xw21_47.2.2.2.2.2 0 = ([(0, .aload_n 0, 0, 0, 0), (1, .iload_n 1, 0, 0, 0), (2, .putfield 108, 21, 0, 0), (5, .iconst (-1), 0, 0, 0), (6, .ireturn, 0, 0, 0)], 7) := rfl
theorem xf21_48_0 : xfind xw21_48.2.2.2.2.2 0 = ([(0, .aload_n 0, 0, 0, 0), (1, .iload_n 1, 0, 0, 0), (2, .putfield 108, 21, 0, 0), (5, .iload_n 1, 0, 0, 0), (6, .ifCond .eq 7, 0, 0, 0), (9, .iconst 1, 0, 0, 0), (10, .goto 4, 0, 0, 0)], 13) := rfl
theorem xf21_48_13 : xfind xw21_48.2.2.2.2.2 13 = ([(13, .iconst 0, 0, 0, 0)], 14) := rfl
theorem xf21_48_14 : xfind xw21_48.2.2.2.2.2 14 = ([(14, .ireturn, 0, 0, 0)], 15) := rfl
theorem xf21_49_0 : xfind xw21_49.2.2.2.2.2 0 = ([(0, .aload_n 0, 0, 0, 0), (1, .getfield 341, 21, 250, 0), (4, .ifnonnull 9, 0, 0, 0), (7, .aload_n 0, 0, 0, 0), (8, .iconst 3, 0, 0, 0), (9, .invokevirtual 121, 21, 3009, 0), (12, .ireturn, 0, 0, 0)], 13) := rfl
theorem xf21_50_0 : xfind xw21_50.2.2.2.2.2 0 = ([(0, .aload_n 0, 0, 0, 0), (1, .getfield 144, 21, 58, 0), (4, .ifnonnull 7, 0, 0, 0), (7, .iconst (-1), 0, 0, 0), (8, .goto 11, 0, 0, 0)], 11) := rfl
theorem xf21_50_19 : xfind xw21_50.2.2.2.2.2 19 = ([(19, .ireturn, 0, 0, 0)], 20) := rfl
theorem xf21_51_0 : xfind xw21_51.2.2.2.2.2 0 = ([(0, .aload_n 0, 0, 0, 0), (1, .getfield 97, 21, 386, 0), (4, .getfield 549, 13, 19, 0), (7, .ifCond .eq 17, 0, 0, 0), (10, .aload_n 0, 0, 0, 0), (11, .aload_n 0, 0, 0, 0), (12, .getfield 97, 21, 386, 0), (15, .invokevirtual 580, 13, 704, 0), (18, .invokevirtual 152, 21, 769, 0), (21, .goto 8, 0, 0, 0)], 24) := rfl
theorem xf21_51_24 : xfind xw21_51.2.2.2.2.2 24 = ([(24, .aload_n 0, 0, 0, 0), (25, .iconst 3, 0, 0, 0), (26, .invokevirtual 121, 21, 3009, 0)], 29) := rfl
theorem xf21_51_29 : xfind xw21_51.2.2.2.2.2 29 = ([(29, .ireturn, 0, 0, 0)], 30) := rfl
theorem xf21_53_0 : xfind xw21_53.2.2.2.2.2 0 = ([(0, .aload_n 0, 0, 0, 0), (1, .getfield 341, 21, 250, 0), (4, .ifnull 13, 0, 0, 0), (7, .iload_n 1, 0, 0, 0), (8, .ifCond .lt 9, 0, 0, 0), (11, .iload_n 1, 0, 0, 0), (12, .bipush 6, 0, 0, 0), (14, .if_icmp .le 5, 0, 0, 0)], 17) := rfl
theorem xf21_53_17 : xfind xw21_53.2.2.2.2.2 17 = ([(17, .iconst (-1), 0, 0, 0), (18, .ireturn, 0, 0, 0)], 19) := rfl
theorem xf21_54_0 : xfind xw21_54.2.2.2.2.2 0 = ([(0, .aload_n 0, 0, 0, 0), (1, .getfield 104, 21, 402, 0), (4, .iload_n 1, 0, 0, 0), (5, .iload_n 2, 0, 0, 0), (6, .invokevirtual 627, 19, 1730, 0), (9, .istore_n 3, 0, 0, 0), (10, .aload_n 0, 0, 0, 0), (11, .getfield 104, 21, 402, 0), (14, .invokevirtual 614, 19, 2112, 0), (17, .ifCond .ne 7, 0, 0, 0), (20, .iload_n 3, 0, 0, 0), (21, .goto 4, 0, 0, 0)], 24) := rfl
theorem xf21_54_24 : xfind xw21_54.2.2.2.2.2 24 = ([(24, .iconst (-1), 0, 0, 0)], 25) := rfl
theorem xf21_54_25 : xfind xw21_54.2.2.2.2.2 25 = ([(25, .ireturn, 0, 0, 0)], 26) := rfl
theorem xf21_55_0 : xfind xw21_55.2.2.2.2.2 0 = ([(0, .aload_n 0, 0, 0, 0), (1, .getfield 252, 21, 98, 0), (4, .ifnonnull 9, 0, 0, 0), (7, .aload_n 0, 0, 0, 0), (8, .iconst 3, 0, 0, 0), (9, .invokevirtual 121, 21, 3009, 0), (12, .ireturn, 0, 0, 0)], 13) := rfl
theorem xf21_58_0 : xfind xw21_58.2.2.2.2.2 0 = ([(0, .iload_n 2, 0, 0, 0), (1, .iconst (-1), 0, 0, 0), (2, .if_icmp .lt 22, 0, 0, 0), (5, .iload_n 2, 0, 0, 0), (6, .iconst 4, 0, 0, 0), (7, .if_icmp .ge 17, 0, 0, 0), (10, .iload_n 3, 0, 0, 0), (11, .iconst (-1), 0, 0, 0), (12, .if_icmp .lt 12, 0, 0, 0), (15, .iload_n 3, 0, 0, 0), (16, .iconst 4, 0, 0, 0), (17, .if_icmp .ge 7, 0, 0, 0), (20, .iconst 1, 0, 0, 0), (21, .goto 4, 0, 0, 0)], 24) := rfl
theorem xf21_58_24 : xfind xw21_58.2.2.2.2.2 24 = ([(24, .iconst 0, 0, 0, 0)], 25) := rfl
theorem xf21_58_25 : xfind xw21_58.2.2.2.2.2 25 = ([(25, .istore 5, 0, 0, 0), (27, .iload_n 1, 0, 0, 0), (28, .ifCond .lt 35, 0, 0, 0), (31, .iload_n 1, 0, 0, 0), (32, .iconst 4, 0, 0, 0), (33, .if_icmp .gt 30, 0, 0, 0), (36, .iload 5, 0, 0, 0), (38, .ifCond .eq 25, 0, 0, 0), (41, .iload 4, 0, 0, 0), (43, .ifCond .lt 20, 0, 0, 0), (46, .iload 4, 0, 0, 0), (48, .iload_n 1, 0, 0, 0), (49, .iconst 4, 0, 0, 0), (50, .if_icmp .ne 7, 0, 0, 0), (53, .iconst 0, 0, 0, 0), (54, .goto 6, 0, 0, 0)], 57) := rfl
theorem xf21_58_57 : xfind xw21_58.2.2.2.2.2 57 = ([(57, .ldc_w 303, 0, 0, 100000)], 60) := rfl
theorem xf21_58_60 : xfind xw21_58.2.2.2.2.2 60 = ([(60, .if_icmp .le 9, 0, 0, 0)], 63) := rfl
theorem xf21_58_63 : xfind xw21_58.2.2.2.2.2 63 = ([(63, .aload_n 0, 0, 0, 0), (64, .iconst 2, 0, 0, 0), (65, .invokevirtual 121, 21, 3009, 0), (68, .ireturn, 0, 0, 0)], 69) := rfl
theorem xf21_58_69 : xfind xw21_58.2.2.2.2.2 69 = ([(69, .aload_n 0, 0, 0, 0), (70, .getfield 304, 21, 192, 0), (73, .bipush 30, 0, 0, 0), (75, .if_icmp .ne 9, 0, 0, 0), (78, .aload_n 0, 0, 0, 0), (79, .iconst 1, 0, 0, 0), (80, .invokevirtual 121, 21, 3009, 0), (83, .ireturn, 0, 0, 0)], 84) := rfl
theorem xf21_58_84 : xfind xw21_58.2.2.2.2.2 84 = ([(84, .aload_n 0, 0, 0, 0), (85, .getfield 56, 21, 202, 0), (88, .aload_n 0, 0, 0, 0), (89, .getfield 304, 21, 192, 0), (92, .iload_n 1, 0, 0, 0), (93, .iastore, 0, 0, 0), (94, .aload_n 0, 0, 0, 0), (95, .getfield 59, 21, 210, 0), (98, .aload_n 0, 0, 0, 0), (99, .getfield 304, 21, 192, 0), (102, .iload_n 2, 0, 0, 0), (103, .iastore, 0, 0, 0), (104, .aload_n 0, 0, 0, 0), (105, .getfield 62, 21, 218, 0), (108, .aload_n 0, 0, 0, 0), (109, .getfield 304, 21, 192, 0), (112, .iload_n 3, 0, 0, 0), (113, .iastore, 0, 0, 0), (114, .aload_n 0, 0, 0, 0), (115, .getfield 65, 21, 226, 0), (118, .aload_n 0, 0, 0, 0), (119, .getfield 304, 21, 192, 0), (122, .iload 4, 0, 0, 0), (124, .iastore, 0, 0, 0), (125, .aload_n 0, 0, 0, 0), (126, .dup, 0, 0, 0), (127, .getfield 304, 21, 192, 0), (130, .iconst 1, 0, 0, 0), (131, .iadd, 0, 0, 0), (132, .putfield 304, 21, 192, 0), (135, .aload_n 0, 0, 0, 0), (136, .aload_n 0, 0, 0, 0), (137, .getfield 304, 21, 192, 0), (140, .iconst 1, 0, 0, 0), (141, .isub, 0, 0, 0), (142, .invokevirtual 152, 21, 769, 0), (145, .ireturn, 0, 0, 0)], 146) := rfl
theorem xf21_59_0 : xfind xw21_59.2.2.2.2.2 0 = ([(0, .aload_n 0, 0, 0, 0), (1, .getfield 90, 21, 378, 0), (4, .iload_n 1, 0, 0, 0), (5, .i2l, 0, 0, 0), (6, .invokevirtual 507, 12, 3073, 0), (9, .istore_n 2, 0, 0, 0), (10, .aload_n 0, 0, 0, 0), (11, .getfield 90, 21, 378, 0), (14, .invokevirtual 510, 12, 3392, 0), (17, .ifCond .ne 11, 0, 0, 0), (20, .aload_n 0, 0, 0, 0), (21, .iload_n 2, 0, 0, 0), (22, .invokevirtual 152, 21, 769, 0), (25, .goto 8, 0, 0, 0)], 28) := rfl
theorem xf21_59_28 : xfind xw21_59.2.2.2.2.2 28 = ([(28, .aload_n 0, 0, 0, 0), (29, .iconst 2, 0, 0, 0), (30, .invokevirtual 121, 21, 3009, 0)], 33) := rfl
theorem xf21_59_33 : xfind xw21_59.2.2.2.2.2 33 = ([(33, .ireturn, 0, 0, 0)], 34) := rfl
theorem xf21_62_0 : xfind xw21_62.2.2.2.2.2 0 = ([(0, .aload_n 0, 0, 0, 0), (1, .getfield 252, 21, 98, 0), (4, .ifnull 13, 0, 0, 0), (7, .aload_n 0, 0, 0, 0), (8, .getfield 97, 21, 386, 0), (11, .getfield 549, 13, 19, 0), (14, .ifCond .eq 9, 0, 0, 0)], 17) := rfl
theorem xf21_62_17 : xfind xw21_62.2.2.2.2.2 17 = ([(17, .aload_n 0, 0, 0, 0), (18, .iconst 3, 0, 0, 0), (19, .invokevirtual 121, 21, 3009, 0), (22, .ireturn, 0, 0, 0)], 23) := rfl
theorem xf21_63_0 : xfind xw21_63.2.2.2.2.2 0 = ([(0, .aload_n 0, 0, 0, 0), (1, .getfield 97, 21, 386, 0), (4, .iload_n 1, 0, 0, 0), (5, .iload_n 2, 0, 0, 0), (6, .invokevirtual 583, 13, 642, 0), (9, .istore_n 3, 0, 0, 0), (10, .aload_n 0, 0, 0, 0), (11, .getfield 97, 21, 386, 0), (14, .invokevirtual 586, 13, 960, 0), (17, .ifCond .ne 7, 0, 0, 0), (20, .iload_n 3, 0, 0, 0), (21, .goto 4, 0, 0, 0)], 24) := rfl
theorem xf21_63_24 : xfind xw21_63.2.2.2.2.2 24 = ([(24, .iconst (-1), 0, 0, 0)], 25) := rfl
theorem xf21_63_25 : xfind xw21_63.2.2.2.2.2 25 = ([(25, .ireturn, 0, 0, 0)], 26) := rfl
theorem xf21_68_0 : xfind xw21_68.2.2.2.2.2 0 = ([(0, .aload_n 0, 0, 0, 0), (1, .getfield 104, 21, 402, 0), (4, .iload_n 1, 0, 0, 0), (5, .invokevirtual 618, 19, 1153, 0), (8, .ifCond .ne 9, 0, 0, 0), (11, .aload_n 0, 0, 0, 0), (12, .iconst 2, 0, 0, 0), (13, .invokevirtual 121, 21, 3009, 0), (16, .ireturn, 0, 0, 0)], 17) := rfl
theorem xf21_70_0 : xfind xw21_70.2.2.2.2.2 0 = ([(0, .iload_n 1, 0, 0, 0), (1, .ifCond .lt 8, 0, 0, 0), (4, .iload_n 1, 0, 0, 0), (5, .iconst 1, 0, 0, 0), (6, .if_icmp .le 9, 0, 0, 0)], 9) := rfl
theorem xf21_70_9 : xfind xw21_70.2.2.2.2.2 9 = ([(9, .aload_n 0, 0, 0, 0), (10, .iconst 2, 0, 0, 0), (11, .invokevirtual 121, 21, 3009, 0), (14, .ireturn, 0, 0, 0)], 15) := rfl
theorem xf21_70_15 : xfind xw21_70.2.2.2.2.2 15 = ([(15, .aload_n 0, 0, 0, 0), (16, .getfield 125, 21, 40, 0), (19, .bipush 24, 0, 0, 0), (21, .if_icmp .eq 11, 0, 0, 0), (24, .aload_n 0, 0, 0, 0), (25, .getfield 128, 21, 48, 0), (28, .iconst 4, 0, 0, 0), (29, .if_icmp .ne 9, 0, 0, 0)], 32) := rfl
theorem xf21_70_38 : xfind xw21_70.2.2.2.2.2 38 = ([(38, .aload_n 0, 0, 0, 0), (39, .dup, 0, 0, 0), (40, .getfield 125, 21, 40, 0), (43, .iconst 1, 0, 0, 0), (44, .iadd, 0, 0, 0), (45, .putfield 125, 21, 40, 0), (48, .aload_n 0, 0, 0, 0), (49, .getfield 18, 21, 26, 0), (52, .iload_n 1, 0, 0, 0), (53, .aaload, 0, 0, 0), (54, .astore_n 2, 0, 0, 0), (55, .aload_n 2, 0, 0, 0), (56, .invokevirtual 131, 20, 384, 0), (59, .iconst 0, 0, 0, 0), (60, .istore_n 3, 0, 0, 0), (61, .iconst 0, 0, 0, 0), (62, .istore 4, 0, 0, 0)], 64) := rfl
theorem xf21_71_0 : xfind xw21_71.2.2.2.2.2 0 = ([(0, .aload_n 0, 0, 0, 0), (1, .getfield 341, 21, 250, 0), (4, .ifnonnull 7, 0, 0, 0), (7, .iconst (-1), 0, 0, 0), (8, .goto 10, 0, 0, 0)], 11) := rfl
theorem xf21_71_18 : xfind xw21_71.2.2.2.2.2 18 = ([(18, .ireturn, 0, 0, 0)], 19) := rfl
theorem xf21_72_0 : xfind xw21_72.2.2.2.2.2 0 = ([(0, .aload_n 0, 0, 0, 0), (1, .getfield 97, 21, 386, 0), (4, .getfield 549, 13, 19, 0), (7, .ifCond .eq 9, 0, 0, 0), (10, .aload_n 0, 0, 0, 0), (11, .iconst 3, 0, 0, 0), (12, .invokevirtual 121, 21, 3009, 0), (15, .ireturn, 0, 0, 0)], 16) := rfl
theorem xf21_72_16 : xfind xw21_72.2.2.2.2.2 16 = ([(16, .aload_n 0, 0, 0, 0), (17, .getfield 97, 21, 386, 0), (20, .getfield 540, 13, 40, 0), (23, .sipush 400, 0, 0, 0), (26, .if_icmp .ne 9, 0, 0, 0), (29, .aload_n 0, 0, 0, 0), (30, .iconst 1, 0, 0, 0), (31, .invokevirtual 121, 21, 3009, 0), (34, .ireturn, 0, 0, 0)], 35) := rfl
theorem xf21_72_35 : xfind xw21_72.2.2.2.2.2 35 = ([(35, .aload_n 0, 0, 0, 0), (36, .aload_n 0, 0, 0, 0), (37, .getfield 97, 21, 386, 0), (40, .invokevirtual 571, 13, 832, 0), (43, .invokevirtual 152, 21, 769, 0), (46, .ireturn, 0, 0, 0)], 47) := rfl
theorem xf21_74_0 : xfind xw21_74.2.2.2.2.2 0 = ([(0, .aload_n 0, 0, 0, 0), (1, .getfield 108, 21, 0, 0), (4, .ireturn, 0, 0, 0)], 5) := rfl
theorem xf21_75_0 : xfind xw21_75.2.2.2.2.2 0 = ([(0, .aload_n 0, 0, 0, 0), (1, .getfield 341, 21, 250, 0), (4, .ifnull 24, 0, 0, 0), (7, .iload_n 1, 0, 0, 0), (8, .ifCond .lt 20, 0, 0, 0), (11, .iload_n 1, 0, 0, 0), (12, .aload_n 0, 0, 0, 0), (13, .getfield 434, 21, 264, 0), (16, .if_icmp .ge 12, 0, 0, 0), (19, .iload_n 2, 0, 0, 0), (20, .ifCond .lt 8, 0, 0, 0), (23, .iload_n 2, 0, 0, 0), (24, .iconst 2, 0, 0, 0), (25, .if_icmp .le 5, 0, 0, 0)], 28) := rfl
theorem xf21_75_28 : xfind xw21_75.2.2.2.2.2 28 = ([(28, .iconst (-1), 0, 0, 0), (29, .ireturn, 0, 0, 0)], 30) := rfl
theorem xf21_76_0 : xfind xw21_76.2.2.2.2.2 0 = ([(0, .aload_n 0, 0, 0, 0), (1, .getfield 341, 21, 250, 0), (4, .ifnonnull 7, 0, 0, 0), (7, .iconst (-1), 0, 0, 0), (8, .goto 7, 0, 0, 0)], 11) := rfl
theorem xf21_76_15 : xfind xw21_76.2.2.2.2.2 15 = ([(15, .ireturn, 0, 0, 0)], 16) := rfl
theorem xf21_77_0 : xfind xw21_77.2.2.2.2.2 0 = ([(0, .aload_n 0, 0, 0, 0), (1, .getfield 252, 21, 98, 0), (4, .ifnonnull 5, 0, 0, 0), (7, .iconst (-1), 0, 0, 0), (8, .ireturn, 0, 0, 0)], 9) := rfl
theorem xf21_79_0 : xfind xw21_79.2.2.2.2.2 0 = ([(0, .aload_n 0, 0, 0, 0), (1, .getfield 104, 21, 402, 0), (4, .iload_n 1, 0, 0, 0), (5, .invokevirtual 615, 19, 2241, 0), (8, .istore_n 2, 0, 0, 0), (9, .aload_n 0, 0, 0, 0), (10, .aload_n 0, 0, 0, 0), (11, .getfield 104, 21, 402, 0), (14, .invokevirtual 614, 19, 2112, 0), (17, .ifCond .eq 7, 0, 0, 0), (20, .iconst 2, 0, 0, 0), (21, .goto 13, 0, 0, 0)], 24) := rfl
theorem xf21_79_34 : xfind xw21_79.2.2.2.2.2 34 = ([(34, .invokevirtual 114, 21, 3073, 0), (37, .ifCond .ne 7, 0, 0, 0), (40, .iconst 1, 0, 0, 0), (41, .goto 4, 0, 0, 0)], 44) := rfl
theorem xf21_79_44 : xfind xw21_79.2.2.2.2.2 44 = ([(44, .iconst 0, 0, 0, 0)], 45) := rfl
theorem xf21_79_45 : xfind xw21_79.2.2.2.2.2 45 = ([(45, .ireturn, 0, 0, 0)], 46) := rfl
theorem xf21_80_0 : xfind xw21_80.2.2.2.2.2 0 = ([(0, .aload_n 0, 0, 0, 0), (1, .getfield 22, 21, 32, 0), (4, .iconst (-1), 0, 0, 0), (5, .if_icmp .eq 7, 0, 0, 0), (8, .iload_n 1, 0, 0, 0), (9, .ifCond .ge 7, 0, 0, 0)], 12) := rfl
theorem xf21_80_12 : xfind xw21_80.2.2.2.2.2 12 = ([(12, .iconst (-1), 0, 0, 0), (13, .goto 16, 0, 0, 0)], 16) := rfl
theorem xf21_80_29 : xfind xw21_80.2.2.2.2.2 29 = ([(29, .ireturn, 0, 0, 0)], 30) := rfl
