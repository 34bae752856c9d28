/-! THE LAW'S START, out of a run of the abstract machine -/
/-- the old cells: the static arrays -/
def xsl (k : Nat) : List Int := match k with
  | 2 => [0, 3, 2, 4, 8, 8, 10, 2, 6, 15]
  | 3 => [100, 300, 250, 150]
  | 4 => [1779033703, -1150833019, 1013904242, -1521486534, 1359893119, -1694144372, 528734635, 1541459225]
  | 5 => [1116352408, 1899447441, -1245643825, -373957723, 961987163, 1508970993, -1841331548, -1424204075, -670586216, 310598401, 607225278, 1426881987, 1925078388, -2132889090, -1680079193, -1046744716, -459576895, -272742522, 264347078, 604807628, 770255983, 1249150122, 1555081692, 1996064986, -1740746414, -1473132947, -1341970488, -1084653625, -958395405, -710438585, 113926993, 338241895, 666307205, 773529912, 1294757372, 1396182291, 1695183700, 1986661051, -2117940946, -1838011259, -1564481375, -1474664885, -1035236496, -949202525, -778901479, -694614492, -200395387, 275423344, 430227734, 506948616, 659060556, 883997877, 958139571, 1322822218, 1537002063, 1747873779, 1955562222, 2024104815, -2067236844, -1933114872, -1866530822, -1538233109, -1090935817, -965641998]
  | _ => []
def xst : List Int := [1, 10, 100, 1000, 10000, 100000, 1000000]
def xmh : XM := (fun k j => Int32.ofInt ((xsl k).getD j 0), fun k j => if k = 1 then Int64.ofInt (xst.getD j 0) else 0, fun _ _ => none, (fun k => match k with | 1 => (101, 7) | 2 => (100, 10) | 3 => (100, 4) | 4 => (100, 8) | 5 => (100, 64) | _ => (0, 0)), 40, 0)
def xm0 (L : Nat) (xs : Nat → Int32) : XM := xsc L xs xmh
def xPt : List (List XB) := [xk0, xk1, xk2, xk3, xk4, xk5, xk6, xk7, xk8, xk9, xk10, xk11, xk12, xk13, xk14, xk15, xk16, xk17, xk18, xk19, xk20, xk21, xk22]
def xP (c i : Nat) : XRow := (c, xmn c i, (xmr c i).2.2.1, (xmr c i).2.2.2.1, (xmr c i).2.2.2.2, (xPt.getD c []).getD i [])
theorem xrow_nil {c : Nat} {n : MethodName} {b : ByteArray} {k : Nat} {r : Option FieldType} : xGood (c, n, b, k, r, []) := ⟨rfl, rfl⟩
theorem xy0_all : (xk0.all fun bs => bs.all fun q => q.2.1.all (xOkY 0)) = true := by decide +kernel
theorem xy0 (i : Nat) (h : i < xk0.length) : ((xk0.getD i []).all fun q => q.2.1.all (xOkY 0)) = true := by
  rw [List.getD_eq_getElem?_getD, List.getElem?_eq_getElem h]
  exact List.all_eq_true.mp xy0_all _ (List.getElem_mem h)
theorem xy1_all : (xk1.all fun bs => bs.all fun q => q.2.1.all (xOkY 1)) = true := by decide +kernel
theorem xy1 (i : Nat) (h : i < xk1.length) : ((xk1.getD i []).all fun q => q.2.1.all (xOkY 1)) = true := by
  rw [List.getD_eq_getElem?_getD, List.getElem?_eq_getElem h]
  exact List.all_eq_true.mp xy1_all _ (List.getElem_mem h)
theorem xy2_all : (xk2.all fun bs => bs.all fun q => q.2.1.all (xOkY 2)) = true := by decide +kernel
theorem xy2 (i : Nat) (h : i < xk2.length) : ((xk2.getD i []).all fun q => q.2.1.all (xOkY 2)) = true := by
  rw [List.getD_eq_getElem?_getD, List.getElem?_eq_getElem h]
  exact List.all_eq_true.mp xy2_all _ (List.getElem_mem h)
theorem xy3_all : (xk3.all fun bs => bs.all fun q => q.2.1.all (xOkY 3)) = true := by decide +kernel
theorem xy3 (i : Nat) (h : i < xk3.length) : ((xk3.getD i []).all fun q => q.2.1.all (xOkY 3)) = true := by
  rw [List.getD_eq_getElem?_getD, List.getElem?_eq_getElem h]
  exact List.all_eq_true.mp xy3_all _ (List.getElem_mem h)
theorem xy4_all : (xk4.all fun bs => bs.all fun q => q.2.1.all (xOkY 4)) = true := by decide +kernel
theorem xy4 (i : Nat) (h : i < xk4.length) : ((xk4.getD i []).all fun q => q.2.1.all (xOkY 4)) = true := by
  rw [List.getD_eq_getElem?_getD, List.getElem?_eq_getElem h]
  exact List.all_eq_true.mp xy4_all _ (List.getElem_mem h)
theorem xy5_all : (xk5.all fun bs => bs.all fun q => q.2.1.all (xOkY 5)) = true := by decide +kernel
theorem xy5 (i : Nat) (h : i < xk5.length) : ((xk5.getD i []).all fun q => q.2.1.all (xOkY 5)) = true := by
  rw [List.getD_eq_getElem?_getD, List.getElem?_eq_getElem h]
  exact List.all_eq_true.mp xy5_all _ (List.getElem_mem h)
theorem xy6_all : (xk6.all fun bs => bs.all fun q => q.2.1.all (xOkY 6)) = true := by decide +kernel
theorem xy6 (i : Nat) (h : i < xk6.length) : ((xk6.getD i []).all fun q => q.2.1.all (xOkY 6)) = true := by
  rw [List.getD_eq_getElem?_getD, List.getElem?_eq_getElem h]
  exact List.all_eq_true.mp xy6_all _ (List.getElem_mem h)
theorem xy7_all : (xk7.all fun bs => bs.all fun q => q.2.1.all (xOkY 7)) = true := by decide +kernel
theorem xy7 (i : Nat) (h : i < xk7.length) : ((xk7.getD i []).all fun q => q.2.1.all (xOkY 7)) = true := by
  rw [List.getD_eq_getElem?_getD, List.getElem?_eq_getElem h]
  exact List.all_eq_true.mp xy7_all _ (List.getElem_mem h)
theorem xy8_all : (xk8.all fun bs => bs.all fun q => q.2.1.all (xOkY 8)) = true := by decide +kernel
theorem xy8 (i : Nat) (h : i < xk8.length) : ((xk8.getD i []).all fun q => q.2.1.all (xOkY 8)) = true := by
  rw [List.getD_eq_getElem?_getD, List.getElem?_eq_getElem h]
  exact List.all_eq_true.mp xy8_all _ (List.getElem_mem h)
theorem xy9_all : (xk9.all fun bs => bs.all fun q => q.2.1.all (xOkY 9)) = true := by decide +kernel
theorem xy9 (i : Nat) (h : i < xk9.length) : ((xk9.getD i []).all fun q => q.2.1.all (xOkY 9)) = true := by
  rw [List.getD_eq_getElem?_getD, List.getElem?_eq_getElem h]
  exact List.all_eq_true.mp xy9_all _ (List.getElem_mem h)
theorem xy10_all : (xk10.all fun bs => bs.all fun q => q.2.1.all (xOkY 10)) = true := by decide +kernel
theorem xy10 (i : Nat) (h : i < xk10.length) : ((xk10.getD i []).all fun q => q.2.1.all (xOkY 10)) = true := by
  rw [List.getD_eq_getElem?_getD, List.getElem?_eq_getElem h]
  exact List.all_eq_true.mp xy10_all _ (List.getElem_mem h)
theorem xy11_all : (xk11.all fun bs => bs.all fun q => q.2.1.all (xOkY 11)) = true := by decide +kernel
theorem xy11 (i : Nat) (h : i < xk11.length) : ((xk11.getD i []).all fun q => q.2.1.all (xOkY 11)) = true := by
  rw [List.getD_eq_getElem?_getD, List.getElem?_eq_getElem h]
  exact List.all_eq_true.mp xy11_all _ (List.getElem_mem h)
theorem xy12_all : (xk12.all fun bs => bs.all fun q => q.2.1.all (xOkY 12)) = true := by decide +kernel
theorem xy12 (i : Nat) (h : i < xk12.length) : ((xk12.getD i []).all fun q => q.2.1.all (xOkY 12)) = true := by
  rw [List.getD_eq_getElem?_getD, List.getElem?_eq_getElem h]
  exact List.all_eq_true.mp xy12_all _ (List.getElem_mem h)
theorem xy13_all : (xk13.all fun bs => bs.all fun q => q.2.1.all (xOkY 13)) = true := by decide +kernel
theorem xy13 (i : Nat) (h : i < xk13.length) : ((xk13.getD i []).all fun q => q.2.1.all (xOkY 13)) = true := by
  rw [List.getD_eq_getElem?_getD, List.getElem?_eq_getElem h]
  exact List.all_eq_true.mp xy13_all _ (List.getElem_mem h)
theorem xy14_all : (xk14.all fun bs => bs.all fun q => q.2.1.all (xOkY 14)) = true := by decide +kernel
theorem xy14 (i : Nat) (h : i < xk14.length) : ((xk14.getD i []).all fun q => q.2.1.all (xOkY 14)) = true := by
  rw [List.getD_eq_getElem?_getD, List.getElem?_eq_getElem h]
  exact List.all_eq_true.mp xy14_all _ (List.getElem_mem h)
theorem xy15_all : (xk15.all fun bs => bs.all fun q => q.2.1.all (xOkY 15)) = true := by decide +kernel
theorem xy15 (i : Nat) (h : i < xk15.length) : ((xk15.getD i []).all fun q => q.2.1.all (xOkY 15)) = true := by
  rw [List.getD_eq_getElem?_getD, List.getElem?_eq_getElem h]
  exact List.all_eq_true.mp xy15_all _ (List.getElem_mem h)
theorem xy16_all : (xk16.all fun bs => bs.all fun q => q.2.1.all (xOkY 16)) = true := by decide +kernel
theorem xy16 (i : Nat) (h : i < xk16.length) : ((xk16.getD i []).all fun q => q.2.1.all (xOkY 16)) = true := by
  rw [List.getD_eq_getElem?_getD, List.getElem?_eq_getElem h]
  exact List.all_eq_true.mp xy16_all _ (List.getElem_mem h)
theorem xy17_all : (xk17.all fun bs => bs.all fun q => q.2.1.all (xOkY 17)) = true := by decide +kernel
theorem xy17 (i : Nat) (h : i < xk17.length) : ((xk17.getD i []).all fun q => q.2.1.all (xOkY 17)) = true := by
  rw [List.getD_eq_getElem?_getD, List.getElem?_eq_getElem h]
  exact List.all_eq_true.mp xy17_all _ (List.getElem_mem h)
theorem xy18_all : (xk18.all fun bs => bs.all fun q => q.2.1.all (xOkY 18)) = true := by decide +kernel
theorem xy18 (i : Nat) (h : i < xk18.length) : ((xk18.getD i []).all fun q => q.2.1.all (xOkY 18)) = true := by
  rw [List.getD_eq_getElem?_getD, List.getElem?_eq_getElem h]
  exact List.all_eq_true.mp xy18_all _ (List.getElem_mem h)
theorem xy19_all : (xk19.all fun bs => bs.all fun q => q.2.1.all (xOkY 19)) = true := by decide +kernel
theorem xy19 (i : Nat) (h : i < xk19.length) : ((xk19.getD i []).all fun q => q.2.1.all (xOkY 19)) = true := by
  rw [List.getD_eq_getElem?_getD, List.getElem?_eq_getElem h]
  exact List.all_eq_true.mp xy19_all _ (List.getElem_mem h)
theorem xy20_all : (xk20.all fun bs => bs.all fun q => q.2.1.all (xOkY 20)) = true := by decide +kernel
theorem xy20 (i : Nat) (h : i < xk20.length) : ((xk20.getD i []).all fun q => q.2.1.all (xOkY 20)) = true := by
  rw [List.getD_eq_getElem?_getD, List.getElem?_eq_getElem h]
  exact List.all_eq_true.mp xy20_all _ (List.getElem_mem h)
theorem xy21_all : (xk21.all fun bs => bs.all fun q => q.2.1.all (xOkY 21)) = true := by decide +kernel
theorem xy21 (i : Nat) (h : i < xk21.length) : ((xk21.getD i []).all fun q => q.2.1.all (xOkY 21)) = true := by
  rw [List.getD_eq_getElem?_getD, List.getElem?_eq_getElem h]
  exact List.all_eq_true.mp xy21_all _ (List.getElem_mem h)
theorem xy22_all : (xk22.all fun bs => bs.all fun q => q.2.1.all (xOkY 22)) = true := by decide +kernel
theorem xy22 (i : Nat) (h : i < xk22.length) : ((xk22.getD i []).all fun q => q.2.1.all (xOkY 22)) = true := by
  rw [List.getD_eq_getElem?_getD, List.getElem?_eq_getElem h]
  exact List.all_eq_true.mp xy22_all _ (List.getElem_mem h)
theorem xPok_all : xPok xP := by
  intro c i
  refine ⟨⟨_, rfl⟩, ?_⟩
  unfold xP
  match c, i with
  | 0, 0 => exact ⟨xr0_0, xy0 0 (by decide)⟩
  | 0, 1 => exact ⟨xr0_1, xy0 1 (by decide)⟩
  | 0, 2 => exact ⟨xr0_2, xy0 2 (by decide)⟩
  | 0, 3 => exact ⟨xr0_3, xy0 3 (by decide)⟩
  | 0, 4 => exact ⟨xr0_4, xy0 4 (by decide)⟩
  | 0, 5 => exact ⟨xr0_5, xy0 5 (by decide)⟩
  | 0, 6 => exact ⟨xr0_6, xy0 6 (by decide)⟩
  | 0, 7 => exact ⟨xr0_7, xy0 7 (by decide)⟩
  | 0, 8 => exact ⟨xr0_8, xy0 8 (by decide)⟩
  | 0, 9 => exact ⟨xr0_9, xy0 9 (by decide)⟩
  | 0, 10 => exact ⟨xr0_10, xy0 10 (by decide)⟩
  | 0, 11 => exact ⟨xr0_11, xy0 11 (by decide)⟩
  | 0, 12 => exact ⟨xr0_12, xy0 12 (by decide)⟩
  | 0, 13 => exact ⟨xr0_13, xy0 13 (by decide)⟩
  | 0, 14 => exact ⟨xr0_14, xy0 14 (by decide)⟩
  | 0, 15 => exact ⟨xr0_15, xy0 15 (by decide)⟩
  | 0, 16 => exact ⟨xr0_16, xy0 16 (by decide)⟩
  | 0, 17 => exact ⟨xr0_17, xy0 17 (by decide)⟩
  | 0, 18 => exact ⟨xr0_18, xy0 18 (by decide)⟩
  | 0, 19 => exact ⟨xr0_19, xy0 19 (by decide)⟩
  | 0, 20 => exact ⟨xr0_20, xy0 20 (by decide)⟩
  | 0, 21 => exact ⟨xr0_21, xy0 21 (by decide)⟩
  | 0, 22 => exact ⟨xr0_22, xy0 22 (by decide)⟩
  | 0, 23 => exact ⟨xr0_23, xy0 23 (by decide)⟩
  | 0, 24 => exact ⟨xr0_24, xy0 24 (by decide)⟩
  | 0, 25 => exact ⟨xr0_25, xy0 25 (by decide)⟩
  | 0, 26 => exact ⟨xr0_26, xy0 26 (by decide)⟩
  | 0, 27 => exact ⟨xr0_27, xy0 27 (by decide)⟩
  | 0, 28 => exact ⟨xr0_28, xy0 28 (by decide)⟩
  | 0, i + 29 => exact xrow_nil
  | 1, 0 => exact ⟨xr1_0, xy1 0 (by decide)⟩
  | 1, 1 => exact ⟨xr1_1, xy1 1 (by decide)⟩
  | 1, 2 => exact ⟨xr1_2, xy1 2 (by decide)⟩
  | 1, 3 => exact ⟨xr1_3, xy1 3 (by decide)⟩
  | 1, 4 => exact ⟨xr1_4, xy1 4 (by decide)⟩
  | 1, 5 => exact ⟨xr1_5, xy1 5 (by decide)⟩
  | 1, 6 => exact ⟨xr1_6, xy1 6 (by decide)⟩
  | 1, 7 => exact ⟨xr1_7, xy1 7 (by decide)⟩
  | 1, 8 => exact ⟨xr1_8, xy1 8 (by decide)⟩
  | 1, 9 => exact ⟨xr1_9, xy1 9 (by decide)⟩
  | 1, 10 => exact ⟨xr1_10, xy1 10 (by decide)⟩
  | 1, 11 => exact ⟨xr1_11, xy1 11 (by decide)⟩
  | 1, 12 => exact ⟨xr1_12, xy1 12 (by decide)⟩
  | 1, 13 => exact ⟨xr1_13, xy1 13 (by decide)⟩
  | 1, 14 => exact ⟨xr1_14, xy1 14 (by decide)⟩
  | 1, 15 => exact ⟨xr1_15, xy1 15 (by decide)⟩
  | 1, 16 => exact ⟨xr1_16, xy1 16 (by decide)⟩
  | 1, 17 => exact ⟨xr1_17, xy1 17 (by decide)⟩
  | 1, 18 => exact ⟨xr1_18, xy1 18 (by decide)⟩
  | 1, 19 => exact ⟨xr1_19, xy1 19 (by decide)⟩
  | 1, 20 => exact ⟨xr1_20, xy1 20 (by decide)⟩
  | 1, 21 => exact ⟨xr1_21, xy1 21 (by decide)⟩
  | 1, 22 => exact ⟨xr1_22, xy1 22 (by decide)⟩
  | 1, 23 => exact ⟨xr1_23, xy1 23 (by decide)⟩
  | 1, 24 => exact ⟨xr1_24, xy1 24 (by decide)⟩
  | 1, 25 => exact ⟨xr1_25, xy1 25 (by decide)⟩
  | 1, 26 => exact ⟨xr1_26, xy1 26 (by decide)⟩
  | 1, 27 => exact ⟨xr1_27, xy1 27 (by decide)⟩
  | 1, 28 => exact ⟨xr1_28, xy1 28 (by decide)⟩
  | 1, 29 => exact ⟨xr1_29, xy1 29 (by decide)⟩
  | 1, 30 => exact ⟨xr1_30, xy1 30 (by decide)⟩
  | 1, 31 => exact ⟨xr1_31, xy1 31 (by decide)⟩
  | 1, 32 => exact ⟨xr1_32, xy1 32 (by decide)⟩
  | 1, 33 => exact ⟨xr1_33, xy1 33 (by decide)⟩
  | 1, 34 => exact ⟨xr1_34, xy1 34 (by decide)⟩
  | 1, 35 => exact ⟨xr1_35, xy1 35 (by decide)⟩
  | 1, 36 => exact ⟨xr1_36, xy1 36 (by decide)⟩
  | 1, 37 => exact ⟨xr1_37, xy1 37 (by decide)⟩
  | 1, 38 => exact ⟨xr1_38, xy1 38 (by decide)⟩
  | 1, 39 => exact ⟨xr1_39, xy1 39 (by decide)⟩
  | 1, 40 => exact ⟨xr1_40, xy1 40 (by decide)⟩
  | 1, 41 => exact ⟨xr1_41, xy1 41 (by decide)⟩
  | 1, 42 => exact ⟨xr1_42, xy1 42 (by decide)⟩
  | 1, 43 => exact ⟨xr1_43, xy1 43 (by decide)⟩
  | 1, 44 => exact ⟨xr1_44, xy1 44 (by decide)⟩
  | 1, 45 => exact ⟨xr1_45, xy1 45 (by decide)⟩
  | 1, 46 => exact ⟨xr1_46, xy1 46 (by decide)⟩
  | 1, 47 => exact ⟨xr1_47, xy1 47 (by decide)⟩
  | 1, 48 => exact ⟨xr1_48, xy1 48 (by decide)⟩
  | 1, 49 => exact ⟨xr1_49, xy1 49 (by decide)⟩
  | 1, 50 => exact ⟨xr1_50, xy1 50 (by decide)⟩
  | 1, 51 => exact ⟨xr1_51, xy1 51 (by decide)⟩
  | 1, 52 => exact ⟨xr1_52, xy1 52 (by decide)⟩
  | 1, 53 => exact ⟨xr1_53, xy1 53 (by decide)⟩
  | 1, 54 => exact ⟨xr1_54, xy1 54 (by decide)⟩
  | 1, 55 => exact ⟨xr1_55, xy1 55 (by decide)⟩
  | 1, 56 => exact ⟨xr1_56, xy1 56 (by decide)⟩
  | 1, 57 => exact ⟨xr1_57, xy1 57 (by decide)⟩
  | 1, 58 => exact ⟨xr1_58, xy1 58 (by decide)⟩
  | 1, i + 59 => exact xrow_nil
  | 2, 0 => exact ⟨xr2_0, xy2 0 (by decide)⟩
  | 2, 1 => exact ⟨xr2_1, xy2 1 (by decide)⟩
  | 2, 2 => exact ⟨xr2_2, xy2 2 (by decide)⟩
  | 2, 3 => exact ⟨xr2_3, xy2 3 (by decide)⟩
  | 2, 4 => exact ⟨xr2_4, xy2 4 (by decide)⟩
  | 2, 5 => exact ⟨xr2_5, xy2 5 (by decide)⟩
  | 2, 6 => exact ⟨xr2_6, xy2 6 (by decide)⟩
  | 2, 7 => exact ⟨xr2_7, xy2 7 (by decide)⟩
  | 2, 8 => exact ⟨xr2_8, xy2 8 (by decide)⟩
  | 2, 9 => exact ⟨xr2_9, xy2 9 (by decide)⟩
  | 2, 10 => exact ⟨xr2_10, xy2 10 (by decide)⟩
  | 2, 11 => exact ⟨xr2_11, xy2 11 (by decide)⟩
  | 2, 12 => exact ⟨xr2_12, xy2 12 (by decide)⟩
  | 2, 13 => exact ⟨xr2_13, xy2 13 (by decide)⟩
  | 2, 14 => exact ⟨xr2_14, xy2 14 (by decide)⟩
  | 2, 15 => exact ⟨xr2_15, xy2 15 (by decide)⟩
  | 2, 16 => exact ⟨xr2_16, xy2 16 (by decide)⟩
  | 2, 17 => exact ⟨xr2_17, xy2 17 (by decide)⟩
  | 2, 18 => exact ⟨xr2_18, xy2 18 (by decide)⟩
  | 2, 19 => exact ⟨xr2_19, xy2 19 (by decide)⟩
  | 2, 20 => exact ⟨xr2_20, xy2 20 (by decide)⟩
  | 2, 21 => exact ⟨xr2_21, xy2 21 (by decide)⟩
  | 2, 22 => exact ⟨xr2_22, xy2 22 (by decide)⟩
  | 2, 23 => exact ⟨xr2_23, xy2 23 (by decide)⟩
  | 2, 24 => exact ⟨xr2_24, xy2 24 (by decide)⟩
  | 2, 25 => exact ⟨xr2_25, xy2 25 (by decide)⟩
  | 2, 26 => exact ⟨xr2_26, xy2 26 (by decide)⟩
  | 2, 27 => exact ⟨xr2_27, xy2 27 (by decide)⟩
  | 2, 28 => exact ⟨xr2_28, xy2 28 (by decide)⟩
  | 2, 29 => exact ⟨xr2_29, xy2 29 (by decide)⟩
  | 2, 30 => exact ⟨xr2_30, xy2 30 (by decide)⟩
  | 2, 31 => exact ⟨xr2_31, xy2 31 (by decide)⟩
  | 2, i + 32 => exact xrow_nil
  | 3, 0 => exact ⟨xr3_0, xy3 0 (by decide)⟩
  | 3, 1 => exact ⟨xr3_1, xy3 1 (by decide)⟩
  | 3, 2 => exact ⟨xr3_2, xy3 2 (by decide)⟩
  | 3, 3 => exact ⟨xr3_3, xy3 3 (by decide)⟩
  | 3, 4 => exact ⟨xr3_4, xy3 4 (by decide)⟩
  | 3, 5 => exact ⟨xr3_5, xy3 5 (by decide)⟩
  | 3, 6 => exact ⟨xr3_6, xy3 6 (by decide)⟩
  | 3, 7 => exact ⟨xr3_7, xy3 7 (by decide)⟩
  | 3, 8 => exact ⟨xr3_8, xy3 8 (by decide)⟩
  | 3, 9 => exact ⟨xr3_9, xy3 9 (by decide)⟩
  | 3, 10 => exact ⟨xr3_10, xy3 10 (by decide)⟩
  | 3, 11 => exact ⟨xr3_11, xy3 11 (by decide)⟩
  | 3, 12 => exact ⟨xr3_12, xy3 12 (by decide)⟩
  | 3, 13 => exact ⟨xr3_13, xy3 13 (by decide)⟩
  | 3, 14 => exact ⟨xr3_14, xy3 14 (by decide)⟩
  | 3, 15 => exact ⟨xr3_15, xy3 15 (by decide)⟩
  | 3, 16 => exact ⟨xr3_16, xy3 16 (by decide)⟩
  | 3, 17 => exact ⟨xr3_17, xy3 17 (by decide)⟩
  | 3, 18 => exact ⟨xr3_18, xy3 18 (by decide)⟩
  | 3, 19 => exact ⟨xr3_19, xy3 19 (by decide)⟩
  | 3, 20 => exact ⟨xr3_20, xy3 20 (by decide)⟩
  | 3, 21 => exact ⟨xr3_21, xy3 21 (by decide)⟩
  | 3, 22 => exact ⟨xr3_22, xy3 22 (by decide)⟩
  | 3, 23 => exact ⟨xr3_23, xy3 23 (by decide)⟩
  | 3, 24 => exact ⟨xr3_24, xy3 24 (by decide)⟩
  | 3, 25 => exact ⟨xr3_25, xy3 25 (by decide)⟩
  | 3, 26 => exact ⟨xr3_26, xy3 26 (by decide)⟩
  | 3, 27 => exact ⟨xr3_27, xy3 27 (by decide)⟩
  | 3, 28 => exact ⟨xr3_28, xy3 28 (by decide)⟩
  | 3, 29 => exact ⟨xr3_29, xy3 29 (by decide)⟩
  | 3, 30 => exact ⟨xr3_30, xy3 30 (by decide)⟩
  | 3, 31 => exact ⟨xr3_31, xy3 31 (by decide)⟩
  | 3, 32 => exact ⟨xr3_32, xy3 32 (by decide)⟩
  | 3, 33 => exact ⟨xr3_33, xy3 33 (by decide)⟩
  | 3, 34 => exact ⟨xr3_34, xy3 34 (by decide)⟩
  | 3, 35 => exact ⟨xr3_35, xy3 35 (by decide)⟩
  | 3, 36 => exact ⟨xr3_36, xy3 36 (by decide)⟩
  | 3, 37 => exact ⟨xr3_37, xy3 37 (by decide)⟩
  | 3, 38 => exact ⟨xr3_38, xy3 38 (by decide)⟩
  | 3, i + 39 => exact xrow_nil
  | 4, 0 => exact ⟨xr4_0, xy4 0 (by decide)⟩
  | 4, 1 => exact ⟨xr4_1, xy4 1 (by decide)⟩
  | 4, 2 => exact ⟨xr4_2, xy4 2 (by decide)⟩
  | 4, 3 => exact ⟨xr4_3, xy4 3 (by decide)⟩
  | 4, 4 => exact ⟨xr4_4, xy4 4 (by decide)⟩
  | 4, 5 => exact ⟨xr4_5, xy4 5 (by decide)⟩
  | 4, 6 => exact ⟨xr4_6, xy4 6 (by decide)⟩
  | 4, 7 => exact ⟨xr4_7, xy4 7 (by decide)⟩
  | 4, 8 => exact ⟨xr4_8, xy4 8 (by decide)⟩
  | 4, 9 => exact ⟨xr4_9, xy4 9 (by decide)⟩
  | 4, 10 => exact ⟨xr4_10, xy4 10 (by decide)⟩
  | 4, 11 => exact ⟨xr4_11, xy4 11 (by decide)⟩
  | 4, 12 => exact ⟨xr4_12, xy4 12 (by decide)⟩
  | 4, 13 => exact ⟨xr4_13, xy4 13 (by decide)⟩
  | 4, 14 => exact ⟨xr4_14, xy4 14 (by decide)⟩
  | 4, 15 => exact ⟨xr4_15, xy4 15 (by decide)⟩
  | 4, 16 => exact ⟨xr4_16, xy4 16 (by decide)⟩
  | 4, 17 => exact ⟨xr4_17, xy4 17 (by decide)⟩
  | 4, 18 => exact ⟨xr4_18, xy4 18 (by decide)⟩
  | 4, 19 => exact ⟨xr4_19, xy4 19 (by decide)⟩
  | 4, 20 => exact ⟨xr4_20, xy4 20 (by decide)⟩
  | 4, 21 => exact ⟨xr4_21, xy4 21 (by decide)⟩
  | 4, 22 => exact ⟨xr4_22, xy4 22 (by decide)⟩
  | 4, 23 => exact ⟨xr4_23, xy4 23 (by decide)⟩
  | 4, 24 => exact ⟨xr4_24, xy4 24 (by decide)⟩
  | 4, 25 => exact ⟨xr4_25, xy4 25 (by decide)⟩
  | 4, 26 => exact ⟨xr4_26, xy4 26 (by decide)⟩
  | 4, 27 => exact ⟨xr4_27, xy4 27 (by decide)⟩
  | 4, 28 => exact ⟨xr4_28, xy4 28 (by decide)⟩
  | 4, 29 => exact ⟨xr4_29, xy4 29 (by decide)⟩
  | 4, 30 => exact ⟨xr4_30, xy4 30 (by decide)⟩
  | 4, 31 => exact ⟨xr4_31, xy4 31 (by decide)⟩
  | 4, 32 => exact ⟨xr4_32, xy4 32 (by decide)⟩
  | 4, 33 => exact ⟨xr4_33, xy4 33 (by decide)⟩
  | 4, 34 => exact ⟨xr4_34, xy4 34 (by decide)⟩
  | 4, 35 => exact ⟨xr4_35, xy4 35 (by decide)⟩
  | 4, 36 => exact ⟨xr4_36, xy4 36 (by decide)⟩
  | 4, 37 => exact ⟨xr4_37, xy4 37 (by decide)⟩
  | 4, 38 => exact ⟨xr4_38, xy4 38 (by decide)⟩
  | 4, i + 39 => exact xrow_nil
  | 5, 0 => exact ⟨xr5_0, xy5 0 (by decide)⟩
  | 5, 1 => exact ⟨xr5_1, xy5 1 (by decide)⟩
  | 5, 2 => exact ⟨xr5_2, xy5 2 (by decide)⟩
  | 5, 3 => exact ⟨xr5_3, xy5 3 (by decide)⟩
  | 5, 4 => exact ⟨xr5_4, xy5 4 (by decide)⟩
  | 5, 5 => exact ⟨xr5_5, xy5 5 (by decide)⟩
  | 5, 6 => exact ⟨xr5_6, xy5 6 (by decide)⟩
  | 5, 7 => exact ⟨xr5_7, xy5 7 (by decide)⟩
  | 5, 8 => exact ⟨xr5_8, xy5 8 (by decide)⟩
  | 5, 9 => exact ⟨xr5_9, xy5 9 (by decide)⟩
  | 5, 10 => exact ⟨xr5_10, xy5 10 (by decide)⟩
  | 5, 11 => exact ⟨xr5_11, xy5 11 (by decide)⟩
  | 5, 12 => exact ⟨xr5_12, xy5 12 (by decide)⟩
  | 5, 13 => exact ⟨xr5_13, xy5 13 (by decide)⟩
  | 5, 14 => exact ⟨xr5_14, xy5 14 (by decide)⟩
  | 5, 15 => exact ⟨xr5_15, xy5 15 (by decide)⟩
  | 5, 16 => exact ⟨xr5_16, xy5 16 (by decide)⟩
  | 5, 17 => exact ⟨xr5_17, xy5 17 (by decide)⟩
  | 5, 18 => exact ⟨xr5_18, xy5 18 (by decide)⟩
  | 5, 19 => exact ⟨xr5_19, xy5 19 (by decide)⟩
  | 5, 20 => exact ⟨xr5_20, xy5 20 (by decide)⟩
  | 5, 21 => exact ⟨xr5_21, xy5 21 (by decide)⟩
  | 5, 22 => exact ⟨xr5_22, xy5 22 (by decide)⟩
  | 5, 23 => exact ⟨xr5_23, xy5 23 (by decide)⟩
  | 5, 24 => exact ⟨xr5_24, xy5 24 (by decide)⟩
  | 5, 25 => exact ⟨xr5_25, xy5 25 (by decide)⟩
  | 5, 26 => exact ⟨xr5_26, xy5 26 (by decide)⟩
  | 5, i + 27 => exact xrow_nil
  | 6, 0 => exact ⟨xr6_0, xy6 0 (by decide)⟩
  | 6, 1 => exact ⟨xr6_1, xy6 1 (by decide)⟩
  | 6, 2 => exact ⟨xr6_2, xy6 2 (by decide)⟩
  | 6, 3 => exact ⟨xr6_3, xy6 3 (by decide)⟩
  | 6, 4 => exact ⟨xr6_4, xy6 4 (by decide)⟩
  | 6, 5 => exact ⟨xr6_5, xy6 5 (by decide)⟩
  | 6, 6 => exact ⟨xr6_6, xy6 6 (by decide)⟩
  | 6, 7 => exact ⟨xr6_7, xy6 7 (by decide)⟩
  | 6, 8 => exact ⟨xr6_8, xy6 8 (by decide)⟩
  | 6, 9 => exact ⟨xr6_9, xy6 9 (by decide)⟩
  | 6, 10 => exact ⟨xr6_10, xy6 10 (by decide)⟩
  | 6, 11 => exact ⟨xr6_11, xy6 11 (by decide)⟩
  | 6, 12 => exact ⟨xr6_12, xy6 12 (by decide)⟩
  | 6, 13 => exact ⟨xr6_13, xy6 13 (by decide)⟩
  | 6, 14 => exact ⟨xr6_14, xy6 14 (by decide)⟩
  | 6, 15 => exact ⟨xr6_15, xy6 15 (by decide)⟩
  | 6, 16 => exact ⟨xr6_16, xy6 16 (by decide)⟩
  | 6, 17 => exact ⟨xr6_17, xy6 17 (by decide)⟩
  | 6, 18 => exact ⟨xr6_18, xy6 18 (by decide)⟩
  | 6, i + 19 => exact xrow_nil
  | 7, 0 => exact ⟨xr7_0, xy7 0 (by decide)⟩
  | 7, 1 => exact ⟨xr7_1, xy7 1 (by decide)⟩
  | 7, 2 => exact ⟨xr7_2, xy7 2 (by decide)⟩
  | 7, 3 => exact ⟨xr7_3, xy7 3 (by decide)⟩
  | 7, 4 => exact ⟨xr7_4, xy7 4 (by decide)⟩
  | 7, i + 5 => exact xrow_nil
  | 8, 0 => exact ⟨xr8_0, xy8 0 (by decide)⟩
  | 8, 1 => exact ⟨xr8_1, xy8 1 (by decide)⟩
  | 8, 2 => exact ⟨xr8_2, xy8 2 (by decide)⟩
  | 8, 3 => exact ⟨xr8_3, xy8 3 (by decide)⟩
  | 8, 4 => exact ⟨xr8_4, xy8 4 (by decide)⟩
  | 8, 5 => exact ⟨xr8_5, xy8 5 (by decide)⟩
  | 8, 6 => exact ⟨xr8_6, xy8 6 (by decide)⟩
  | 8, 7 => exact ⟨xr8_7, xy8 7 (by decide)⟩
  | 8, 8 => exact ⟨xr8_8, xy8 8 (by decide)⟩
  | 8, 9 => exact ⟨xr8_9, xy8 9 (by decide)⟩
  | 8, 10 => exact ⟨xr8_10, xy8 10 (by decide)⟩
  | 8, 11 => exact ⟨xr8_11, xy8 11 (by decide)⟩
  | 8, 12 => exact ⟨xr8_12, xy8 12 (by decide)⟩
  | 8, 13 => exact ⟨xr8_13, xy8 13 (by decide)⟩
  | 8, 14 => exact ⟨xr8_14, xy8 14 (by decide)⟩
  | 8, 15 => exact ⟨xr8_15, xy8 15 (by decide)⟩
  | 8, 16 => exact ⟨xr8_16, xy8 16 (by decide)⟩
  | 8, 17 => exact ⟨xr8_17, xy8 17 (by decide)⟩
  | 8, 18 => exact ⟨xr8_18, xy8 18 (by decide)⟩
  | 8, 19 => exact ⟨xr8_19, xy8 19 (by decide)⟩
  | 8, 20 => exact ⟨xr8_20, xy8 20 (by decide)⟩
  | 8, 21 => exact ⟨xr8_21, xy8 21 (by decide)⟩
  | 8, 22 => exact ⟨xr8_22, xy8 22 (by decide)⟩
  | 8, i + 23 => exact xrow_nil
  | 9, 0 => exact ⟨xr9_0, xy9 0 (by decide)⟩
  | 9, 1 => exact ⟨xr9_1, xy9 1 (by decide)⟩
  | 9, 2 => exact ⟨xr9_2, xy9 2 (by decide)⟩
  | 9, 3 => exact ⟨xr9_3, xy9 3 (by decide)⟩
  | 9, 4 => exact ⟨xr9_4, xy9 4 (by decide)⟩
  | 9, 5 => exact ⟨xr9_5, xy9 5 (by decide)⟩
  | 9, 6 => exact ⟨xr9_6, xy9 6 (by decide)⟩
  | 9, 7 => exact ⟨xr9_7, xy9 7 (by decide)⟩
  | 9, 8 => exact ⟨xr9_8, xy9 8 (by decide)⟩
  | 9, 9 => exact ⟨xr9_9, xy9 9 (by decide)⟩
  | 9, 10 => exact ⟨xr9_10, xy9 10 (by decide)⟩
  | 9, 11 => exact ⟨xr9_11, xy9 11 (by decide)⟩
  | 9, 12 => exact ⟨xr9_12, xy9 12 (by decide)⟩
  | 9, 13 => exact ⟨xr9_13, xy9 13 (by decide)⟩
  | 9, 14 => exact ⟨xr9_14, xy9 14 (by decide)⟩
  | 9, 15 => exact ⟨xr9_15, xy9 15 (by decide)⟩
  | 9, 16 => exact ⟨xr9_16, xy9 16 (by decide)⟩
  | 9, 17 => exact ⟨xr9_17, xy9 17 (by decide)⟩
  | 9, 18 => exact ⟨xr9_18, xy9 18 (by decide)⟩
  | 9, 19 => exact ⟨xr9_19, xy9 19 (by decide)⟩
  | 9, 20 => exact ⟨xr9_20, xy9 20 (by decide)⟩
  | 9, 21 => exact ⟨xr9_21, xy9 21 (by decide)⟩
  | 9, 22 => exact ⟨xr9_22, xy9 22 (by decide)⟩
  | 9, 23 => exact ⟨xr9_23, xy9 23 (by decide)⟩
  | 9, 24 => exact ⟨xr9_24, xy9 24 (by decide)⟩
  | 9, 25 => exact ⟨xr9_25, xy9 25 (by decide)⟩
  | 9, 26 => exact ⟨xr9_26, xy9 26 (by decide)⟩
  | 9, 27 => exact ⟨xr9_27, xy9 27 (by decide)⟩
  | 9, 28 => exact ⟨xr9_28, xy9 28 (by decide)⟩
  | 9, i + 29 => exact xrow_nil
  | 10, 0 => exact ⟨xr10_0, xy10 0 (by decide)⟩
  | 10, 1 => exact ⟨xr10_1, xy10 1 (by decide)⟩
  | 10, 2 => exact ⟨xr10_2, xy10 2 (by decide)⟩
  | 10, 3 => exact ⟨xr10_3, xy10 3 (by decide)⟩
  | 10, 4 => exact ⟨xr10_4, xy10 4 (by decide)⟩
  | 10, 5 => exact ⟨xr10_5, xy10 5 (by decide)⟩
  | 10, 6 => exact ⟨xr10_6, xy10 6 (by decide)⟩
  | 10, 7 => exact ⟨xr10_7, xy10 7 (by decide)⟩
  | 10, 8 => exact ⟨xr10_8, xy10 8 (by decide)⟩
  | 10, 9 => exact ⟨xr10_9, xy10 9 (by decide)⟩
  | 10, 10 => exact ⟨xr10_10, xy10 10 (by decide)⟩
  | 10, 11 => exact ⟨xr10_11, xy10 11 (by decide)⟩
  | 10, 12 => exact ⟨xr10_12, xy10 12 (by decide)⟩
  | 10, 13 => exact ⟨xr10_13, xy10 13 (by decide)⟩
  | 10, 14 => exact ⟨xr10_14, xy10 14 (by decide)⟩
  | 10, 15 => exact ⟨xr10_15, xy10 15 (by decide)⟩
  | 10, 16 => exact ⟨xr10_16, xy10 16 (by decide)⟩
  | 10, 17 => exact ⟨xr10_17, xy10 17 (by decide)⟩
  | 10, 18 => exact ⟨xr10_18, xy10 18 (by decide)⟩
  | 10, 19 => exact ⟨xr10_19, xy10 19 (by decide)⟩
  | 10, 20 => exact ⟨xr10_20, xy10 20 (by decide)⟩
  | 10, 21 => exact ⟨xr10_21, xy10 21 (by decide)⟩
  | 10, i + 22 => exact xrow_nil
  | 11, 0 => exact ⟨xr11_0, xy11 0 (by decide)⟩
  | 11, 1 => exact ⟨xr11_1, xy11 1 (by decide)⟩
  | 11, 2 => exact ⟨xr11_2, xy11 2 (by decide)⟩
  | 11, 3 => exact ⟨xr11_3, xy11 3 (by decide)⟩
  | 11, 4 => exact ⟨xr11_4, xy11 4 (by decide)⟩
  | 11, 5 => exact ⟨xr11_5, xy11 5 (by decide)⟩
  | 11, 6 => exact ⟨xr11_6, xy11 6 (by decide)⟩
  | 11, 7 => exact ⟨xr11_7, xy11 7 (by decide)⟩
  | 11, 8 => exact ⟨xr11_8, xy11 8 (by decide)⟩
  | 11, 9 => exact ⟨xr11_9, xy11 9 (by decide)⟩
  | 11, 10 => exact ⟨xr11_10, xy11 10 (by decide)⟩
  | 11, 11 => exact ⟨xr11_11, xy11 11 (by decide)⟩
  | 11, 12 => exact ⟨xr11_12, xy11 12 (by decide)⟩
  | 11, 13 => exact ⟨xr11_13, xy11 13 (by decide)⟩
  | 11, 14 => exact ⟨xr11_14, xy11 14 (by decide)⟩
  | 11, 15 => exact ⟨xr11_15, xy11 15 (by decide)⟩
  | 11, 16 => exact ⟨xr11_16, xy11 16 (by decide)⟩
  | 11, 17 => exact ⟨xr11_17, xy11 17 (by decide)⟩
  | 11, 18 => exact ⟨xr11_18, xy11 18 (by decide)⟩
  | 11, 19 => exact ⟨xr11_19, xy11 19 (by decide)⟩
  | 11, 20 => exact ⟨xr11_20, xy11 20 (by decide)⟩
  | 11, 21 => exact ⟨xr11_21, xy11 21 (by decide)⟩
  | 11, 22 => exact ⟨xr11_22, xy11 22 (by decide)⟩
  | 11, 23 => exact ⟨xr11_23, xy11 23 (by decide)⟩
  | 11, 24 => exact ⟨xr11_24, xy11 24 (by decide)⟩
  | 11, 25 => exact ⟨xr11_25, xy11 25 (by decide)⟩
  | 11, 26 => exact ⟨xr11_26, xy11 26 (by decide)⟩
  | 11, 27 => exact ⟨xr11_27, xy11 27 (by decide)⟩
  | 11, 28 => exact ⟨xr11_28, xy11 28 (by decide)⟩
  | 11, 29 => exact ⟨xr11_29, xy11 29 (by decide)⟩
  | 11, 30 => exact ⟨xr11_30, xy11 30 (by decide)⟩
  | 11, 31 => exact ⟨xr11_31, xy11 31 (by decide)⟩
  | 11, 32 => exact ⟨xr11_32, xy11 32 (by decide)⟩
  | 11, 33 => exact ⟨xr11_33, xy11 33 (by decide)⟩
  | 11, 34 => exact ⟨xr11_34, xy11 34 (by decide)⟩
  | 11, 35 => exact ⟨xr11_35, xy11 35 (by decide)⟩
  | 11, 36 => exact ⟨xr11_36, xy11 36 (by decide)⟩
  | 11, 37 => exact ⟨xr11_37, xy11 37 (by decide)⟩
  | 11, 38 => exact ⟨xr11_38, xy11 38 (by decide)⟩
  | 11, 39 => exact ⟨xr11_39, xy11 39 (by decide)⟩
  | 11, 40 => exact ⟨xr11_40, xy11 40 (by decide)⟩
  | 11, 41 => exact ⟨xr11_41, xy11 41 (by decide)⟩
  | 11, 42 => exact ⟨xr11_42, xy11 42 (by decide)⟩
  | 11, 43 => exact ⟨xr11_43, xy11 43 (by decide)⟩
  | 11, 44 => exact ⟨xr11_44, xy11 44 (by decide)⟩
  | 11, 45 => exact ⟨xr11_45, xy11 45 (by decide)⟩
  | 11, 46 => exact ⟨xr11_46, xy11 46 (by decide)⟩
  | 11, 47 => exact ⟨xr11_47, xy11 47 (by decide)⟩
  | 11, 48 => exact ⟨xr11_48, xy11 48 (by decide)⟩
  | 11, 49 => exact ⟨xr11_49, xy11 49 (by decide)⟩
  | 11, 50 => exact ⟨xr11_50, xy11 50 (by decide)⟩
  | 11, 51 => exact ⟨xr11_51, xy11 51 (by decide)⟩
  | 11, 52 => exact ⟨xr11_52, xy11 52 (by decide)⟩
  | 11, 53 => exact ⟨xr11_53, xy11 53 (by decide)⟩
  | 11, 54 => exact ⟨xr11_54, xy11 54 (by decide)⟩
  | 11, 55 => exact ⟨xr11_55, xy11 55 (by decide)⟩
  | 11, 56 => exact ⟨xr11_56, xy11 56 (by decide)⟩
  | 11, 57 => exact ⟨xr11_57, xy11 57 (by decide)⟩
  | 11, 58 => exact ⟨xr11_58, xy11 58 (by decide)⟩
  | 11, i + 59 => exact xrow_nil
  | 12, 0 => exact ⟨xr12_0, xy12 0 (by decide)⟩
  | 12, 1 => exact ⟨xr12_1, xy12 1 (by decide)⟩
  | 12, 2 => exact ⟨xr12_2, xy12 2 (by decide)⟩
  | 12, 3 => exact ⟨xr12_3, xy12 3 (by decide)⟩
  | 12, 4 => exact ⟨xr12_4, xy12 4 (by decide)⟩
  | 12, 5 => exact ⟨xr12_5, xy12 5 (by decide)⟩
  | 12, 6 => exact ⟨xr12_6, xy12 6 (by decide)⟩
  | 12, 7 => exact ⟨xr12_7, xy12 7 (by decide)⟩
  | 12, 8 => exact ⟨xr12_8, xy12 8 (by decide)⟩
  | 12, 9 => exact ⟨xr12_9, xy12 9 (by decide)⟩
  | 12, 10 => exact ⟨xr12_10, xy12 10 (by decide)⟩
  | 12, 11 => exact ⟨xr12_11, xy12 11 (by decide)⟩
  | 12, 12 => exact ⟨xr12_12, xy12 12 (by decide)⟩
  | 12, 13 => exact ⟨xr12_13, xy12 13 (by decide)⟩
  | 12, 14 => exact ⟨xr12_14, xy12 14 (by decide)⟩
  | 12, 15 => exact ⟨xr12_15, xy12 15 (by decide)⟩
  | 12, 16 => exact ⟨xr12_16, xy12 16 (by decide)⟩
  | 12, 17 => exact ⟨xr12_17, xy12 17 (by decide)⟩
  | 12, 18 => exact ⟨xr12_18, xy12 18 (by decide)⟩
  | 12, 19 => exact ⟨xr12_19, xy12 19 (by decide)⟩
  | 12, 20 => exact ⟨xr12_20, xy12 20 (by decide)⟩
  | 12, 21 => exact ⟨xr12_21, xy12 21 (by decide)⟩
  | 12, 22 => exact ⟨xr12_22, xy12 22 (by decide)⟩
  | 12, 23 => exact ⟨xr12_23, xy12 23 (by decide)⟩
  | 12, 24 => exact ⟨xr12_24, xy12 24 (by decide)⟩
  | 12, 25 => exact ⟨xr12_25, xy12 25 (by decide)⟩
  | 12, 26 => exact ⟨xr12_26, xy12 26 (by decide)⟩
  | 12, 27 => exact ⟨xr12_27, xy12 27 (by decide)⟩
  | 12, 28 => exact ⟨xr12_28, xy12 28 (by decide)⟩
  | 12, 29 => exact ⟨xr12_29, xy12 29 (by decide)⟩
  | 12, 30 => exact ⟨xr12_30, xy12 30 (by decide)⟩
  | 12, 31 => exact ⟨xr12_31, xy12 31 (by decide)⟩
  | 12, 32 => exact ⟨xr12_32, xy12 32 (by decide)⟩
  | 12, 33 => exact ⟨xr12_33, xy12 33 (by decide)⟩
  | 12, 34 => exact ⟨xr12_34, xy12 34 (by decide)⟩
  | 12, 35 => exact ⟨xr12_35, xy12 35 (by decide)⟩
  | 12, 36 => exact ⟨xr12_36, xy12 36 (by decide)⟩
  | 12, 37 => exact ⟨xr12_37, xy12 37 (by decide)⟩
  | 12, 38 => exact ⟨xr12_38, xy12 38 (by decide)⟩
  | 12, 39 => exact ⟨xr12_39, xy12 39 (by decide)⟩
  | 12, 40 => exact ⟨xr12_40, xy12 40 (by decide)⟩
  | 12, 41 => exact ⟨xr12_41, xy12 41 (by decide)⟩
  | 12, 42 => exact ⟨xr12_42, xy12 42 (by decide)⟩
  | 12, 43 => exact ⟨xr12_43, xy12 43 (by decide)⟩
  | 12, 44 => exact ⟨xr12_44, xy12 44 (by decide)⟩
  | 12, 45 => exact ⟨xr12_45, xy12 45 (by decide)⟩
  | 12, 46 => exact ⟨xr12_46, xy12 46 (by decide)⟩
  | 12, 47 => exact ⟨xr12_47, xy12 47 (by decide)⟩
  | 12, 48 => exact ⟨xr12_48, xy12 48 (by decide)⟩
  | 12, 49 => exact ⟨xr12_49, xy12 49 (by decide)⟩
  | 12, 50 => exact ⟨xr12_50, xy12 50 (by decide)⟩
  | 12, 51 => exact ⟨xr12_51, xy12 51 (by decide)⟩
  | 12, 52 => exact ⟨xr12_52, xy12 52 (by decide)⟩
  | 12, 53 => exact ⟨xr12_53, xy12 53 (by decide)⟩
  | 12, 54 => exact ⟨xr12_54, xy12 54 (by decide)⟩
  | 12, 55 => exact ⟨xr12_55, xy12 55 (by decide)⟩
  | 12, i + 56 => exact xrow_nil
  | 13, 0 => exact ⟨xr13_0, xy13 0 (by decide)⟩
  | 13, 1 => exact ⟨xr13_1, xy13 1 (by decide)⟩
  | 13, 2 => exact ⟨xr13_2, xy13 2 (by decide)⟩
  | 13, 3 => exact ⟨xr13_3, xy13 3 (by decide)⟩
  | 13, 4 => exact ⟨xr13_4, xy13 4 (by decide)⟩
  | 13, 5 => exact ⟨xr13_5, xy13 5 (by decide)⟩
  | 13, 6 => exact ⟨xr13_6, xy13 6 (by decide)⟩
  | 13, 7 => exact ⟨xr13_7, xy13 7 (by decide)⟩
  | 13, 8 => exact ⟨xr13_8, xy13 8 (by decide)⟩
  | 13, 9 => exact ⟨xr13_9, xy13 9 (by decide)⟩
  | 13, 10 => exact ⟨xr13_10, xy13 10 (by decide)⟩
  | 13, 11 => exact ⟨xr13_11, xy13 11 (by decide)⟩
  | 13, 12 => exact ⟨xr13_12, xy13 12 (by decide)⟩
  | 13, 13 => exact ⟨xr13_13, xy13 13 (by decide)⟩
  | 13, 14 => exact ⟨xr13_14, xy13 14 (by decide)⟩
  | 13, 15 => exact ⟨xr13_15, xy13 15 (by decide)⟩
  | 13, 16 => exact ⟨xr13_16, xy13 16 (by decide)⟩
  | 13, 17 => exact ⟨xr13_17, xy13 17 (by decide)⟩
  | 13, 18 => exact ⟨xr13_18, xy13 18 (by decide)⟩
  | 13, i + 19 => exact xrow_nil
  | 14, 0 => exact ⟨xr14_0, xy14 0 (by decide)⟩
  | 14, 1 => exact ⟨xr14_1, xy14 1 (by decide)⟩
  | 14, 2 => exact ⟨xr14_2, xy14 2 (by decide)⟩
  | 14, 3 => exact ⟨xr14_3, xy14 3 (by decide)⟩
  | 14, 4 => exact ⟨xr14_4, xy14 4 (by decide)⟩
  | 14, 5 => exact ⟨xr14_5, xy14 5 (by decide)⟩
  | 14, 6 => exact ⟨xr14_6, xy14 6 (by decide)⟩
  | 14, 7 => exact ⟨xr14_7, xy14 7 (by decide)⟩
  | 14, 8 => exact ⟨xr14_8, xy14 8 (by decide)⟩
  | 14, 9 => exact ⟨xr14_9, xy14 9 (by decide)⟩
  | 14, 10 => exact ⟨xr14_10, xy14 10 (by decide)⟩
  | 14, 11 => exact ⟨xr14_11, xy14 11 (by decide)⟩
  | 14, 12 => exact ⟨xr14_12, xy14 12 (by decide)⟩
  | 14, 13 => exact ⟨xr14_13, xy14 13 (by decide)⟩
  | 14, 14 => exact ⟨xr14_14, xy14 14 (by decide)⟩
  | 14, 15 => exact ⟨xr14_15, xy14 15 (by decide)⟩
  | 14, 16 => exact ⟨xr14_16, xy14 16 (by decide)⟩
  | 14, 17 => exact ⟨xr14_17, xy14 17 (by decide)⟩
  | 14, 18 => exact ⟨xr14_18, xy14 18 (by decide)⟩
  | 14, 19 => exact ⟨xr14_19, xy14 19 (by decide)⟩
  | 14, 20 => exact ⟨xr14_20, xy14 20 (by decide)⟩
  | 14, 21 => exact ⟨xr14_21, xy14 21 (by decide)⟩
  | 14, 22 => exact ⟨xr14_22, xy14 22 (by decide)⟩
  | 14, 23 => exact ⟨xr14_23, xy14 23 (by decide)⟩
  | 14, 24 => exact ⟨xr14_24, xy14 24 (by decide)⟩
  | 14, 25 => exact ⟨xr14_25, xy14 25 (by decide)⟩
  | 14, 26 => exact ⟨xr14_26, xy14 26 (by decide)⟩
  | 14, 27 => exact ⟨xr14_27, xy14 27 (by decide)⟩
  | 14, 28 => exact ⟨xr14_28, xy14 28 (by decide)⟩
  | 14, 29 => exact ⟨xr14_29, xy14 29 (by decide)⟩
  | 14, 30 => exact ⟨xr14_30, xy14 30 (by decide)⟩
  | 14, 31 => exact ⟨xr14_31, xy14 31 (by decide)⟩
  | 14, 32 => exact ⟨xr14_32, xy14 32 (by decide)⟩
  | 14, 33 => exact ⟨xr14_33, xy14 33 (by decide)⟩
  | 14, 34 => exact ⟨xr14_34, xy14 34 (by decide)⟩
  | 14, 35 => exact ⟨xr14_35, xy14 35 (by decide)⟩
  | 14, i + 36 => exact xrow_nil
  | 15, 0 => exact ⟨xr15_0, xy15 0 (by decide)⟩
  | 15, 1 => exact ⟨xr15_1, xy15 1 (by decide)⟩
  | 15, 2 => exact ⟨xr15_2, xy15 2 (by decide)⟩
  | 15, 3 => exact ⟨xr15_3, xy15 3 (by decide)⟩
  | 15, 4 => exact ⟨xr15_4, xy15 4 (by decide)⟩
  | 15, 5 => exact ⟨xr15_5, xy15 5 (by decide)⟩
  | 15, 6 => exact ⟨xr15_6, xy15 6 (by decide)⟩
  | 15, 7 => exact ⟨xr15_7, xy15 7 (by decide)⟩
  | 15, 8 => exact ⟨xr15_8, xy15 8 (by decide)⟩
  | 15, 9 => exact ⟨xr15_9, xy15 9 (by decide)⟩
  | 15, 10 => exact ⟨xr15_10, xy15 10 (by decide)⟩
  | 15, 11 => exact ⟨xr15_11, xy15 11 (by decide)⟩
  | 15, 12 => exact ⟨xr15_12, xy15 12 (by decide)⟩
  | 15, 13 => exact ⟨xr15_13, xy15 13 (by decide)⟩
  | 15, 14 => exact ⟨xr15_14, xy15 14 (by decide)⟩
  | 15, 15 => exact ⟨xr15_15, xy15 15 (by decide)⟩
  | 15, 16 => exact ⟨xr15_16, xy15 16 (by decide)⟩
  | 15, 17 => exact ⟨xr15_17, xy15 17 (by decide)⟩
  | 15, 18 => exact ⟨xr15_18, xy15 18 (by decide)⟩
  | 15, 19 => exact ⟨xr15_19, xy15 19 (by decide)⟩
  | 15, 20 => exact ⟨xr15_20, xy15 20 (by decide)⟩
  | 15, 21 => exact ⟨xr15_21, xy15 21 (by decide)⟩
  | 15, 22 => exact ⟨xr15_22, xy15 22 (by decide)⟩
  | 15, 23 => exact ⟨xr15_23, xy15 23 (by decide)⟩
  | 15, 24 => exact ⟨xr15_24, xy15 24 (by decide)⟩
  | 15, 25 => exact ⟨xr15_25, xy15 25 (by decide)⟩
  | 15, 26 => exact ⟨xr15_26, xy15 26 (by decide)⟩
  | 15, 27 => exact ⟨xr15_27, xy15 27 (by decide)⟩
  | 15, i + 28 => exact xrow_nil
  | 16, 0 => exact ⟨xr16_0, xy16 0 (by decide)⟩
  | 16, 1 => exact ⟨xr16_1, xy16 1 (by decide)⟩
  | 16, 2 => exact ⟨xr16_2, xy16 2 (by decide)⟩
  | 16, 3 => exact ⟨xr16_3, xy16 3 (by decide)⟩
  | 16, 4 => exact ⟨xr16_4, xy16 4 (by decide)⟩
  | 16, 5 => exact ⟨xr16_5, xy16 5 (by decide)⟩
  | 16, 6 => exact ⟨xr16_6, xy16 6 (by decide)⟩
  | 16, 7 => exact ⟨xr16_7, xy16 7 (by decide)⟩
  | 16, 8 => exact ⟨xr16_8, xy16 8 (by decide)⟩
  | 16, 9 => exact ⟨xr16_9, xy16 9 (by decide)⟩
  | 16, 10 => exact ⟨xr16_10, xy16 10 (by decide)⟩
  | 16, 11 => exact ⟨xr16_11, xy16 11 (by decide)⟩
  | 16, 12 => exact ⟨xr16_12, xy16 12 (by decide)⟩
  | 16, 13 => exact ⟨xr16_13, xy16 13 (by decide)⟩
  | 16, 14 => exact ⟨xr16_14, xy16 14 (by decide)⟩
  | 16, 15 => exact ⟨xr16_15, xy16 15 (by decide)⟩
  | 16, 16 => exact ⟨xr16_16, xy16 16 (by decide)⟩
  | 16, 17 => exact ⟨xr16_17, xy16 17 (by decide)⟩
  | 16, 18 => exact ⟨xr16_18, xy16 18 (by decide)⟩
  | 16, 19 => exact ⟨xr16_19, xy16 19 (by decide)⟩
  | 16, 20 => exact ⟨xr16_20, xy16 20 (by decide)⟩
  | 16, 21 => exact ⟨xr16_21, xy16 21 (by decide)⟩
  | 16, 22 => exact ⟨xr16_22, xy16 22 (by decide)⟩
  | 16, 23 => exact ⟨xr16_23, xy16 23 (by decide)⟩
  | 16, 24 => exact ⟨xr16_24, xy16 24 (by decide)⟩
  | 16, 25 => exact ⟨xr16_25, xy16 25 (by decide)⟩
  | 16, 26 => exact ⟨xr16_26, xy16 26 (by decide)⟩
  | 16, 27 => exact ⟨xr16_27, xy16 27 (by decide)⟩
  | 16, 28 => exact ⟨xr16_28, xy16 28 (by decide)⟩
  | 16, 29 => exact ⟨xr16_29, xy16 29 (by decide)⟩
  | 16, 30 => exact ⟨xr16_30, xy16 30 (by decide)⟩
  | 16, 31 => exact ⟨xr16_31, xy16 31 (by decide)⟩
  | 16, 32 => exact ⟨xr16_32, xy16 32 (by decide)⟩
  | 16, 33 => exact ⟨xr16_33, xy16 33 (by decide)⟩
  | 16, i + 34 => exact xrow_nil
  | 17, 0 => exact ⟨xr17_0, xy17 0 (by decide)⟩
  | 17, 1 => exact ⟨xr17_1, xy17 1 (by decide)⟩
  | 17, 2 => exact ⟨xr17_2, xy17 2 (by decide)⟩
  | 17, 3 => exact ⟨xr17_3, xy17 3 (by decide)⟩
  | 17, 4 => exact ⟨xr17_4, xy17 4 (by decide)⟩
  | 17, 5 => exact ⟨xr17_5, xy17 5 (by decide)⟩
  | 17, 6 => exact ⟨xr17_6, xy17 6 (by decide)⟩
  | 17, 7 => exact ⟨xr17_7, xy17 7 (by decide)⟩
  | 17, 8 => exact ⟨xr17_8, xy17 8 (by decide)⟩
  | 17, 9 => exact ⟨xr17_9, xy17 9 (by decide)⟩
  | 17, 10 => exact ⟨xr17_10, xy17 10 (by decide)⟩
  | 17, 11 => exact ⟨xr17_11, xy17 11 (by decide)⟩
  | 17, 12 => exact ⟨xr17_12, xy17 12 (by decide)⟩
  | 17, 13 => exact ⟨xr17_13, xy17 13 (by decide)⟩
  | 17, 14 => exact ⟨xr17_14, xy17 14 (by decide)⟩
  | 17, 15 => exact ⟨xr17_15, xy17 15 (by decide)⟩
  | 17, 16 => exact ⟨xr17_16, xy17 16 (by decide)⟩
  | 17, 17 => exact ⟨xr17_17, xy17 17 (by decide)⟩
  | 17, 18 => exact ⟨xr17_18, xy17 18 (by decide)⟩
  | 17, 19 => exact ⟨xr17_19, xy17 19 (by decide)⟩
  | 17, 20 => exact ⟨xr17_20, xy17 20 (by decide)⟩
  | 17, 21 => exact ⟨xr17_21, xy17 21 (by decide)⟩
  | 17, 22 => exact ⟨xr17_22, xy17 22 (by decide)⟩
  | 17, 23 => exact ⟨xr17_23, xy17 23 (by decide)⟩
  | 17, 24 => exact ⟨xr17_24, xy17 24 (by decide)⟩
  | 17, 25 => exact ⟨xr17_25, xy17 25 (by decide)⟩
  | 17, 26 => exact ⟨xr17_26, xy17 26 (by decide)⟩
  | 17, 27 => exact ⟨xr17_27, xy17 27 (by decide)⟩
  | 17, 28 => exact ⟨xr17_28, xy17 28 (by decide)⟩
  | 17, 29 => exact ⟨xr17_29, xy17 29 (by decide)⟩
  | 17, 30 => exact ⟨xr17_30, xy17 30 (by decide)⟩
  | 17, 31 => exact ⟨xr17_31, xy17 31 (by decide)⟩
  | 17, 32 => exact ⟨xr17_32, xy17 32 (by decide)⟩
  | 17, 33 => exact ⟨xr17_33, xy17 33 (by decide)⟩
  | 17, i + 34 => exact xrow_nil
  | 18, 0 => exact ⟨xr18_0, xy18 0 (by decide)⟩
  | 18, 1 => exact ⟨xr18_1, xy18 1 (by decide)⟩
  | 18, 2 => exact ⟨xr18_2, xy18 2 (by decide)⟩
  | 18, 3 => exact ⟨xr18_3, xy18 3 (by decide)⟩
  | 18, 4 => exact ⟨xr18_4, xy18 4 (by decide)⟩
  | 18, 5 => exact ⟨xr18_5, xy18 5 (by decide)⟩
  | 18, 6 => exact ⟨xr18_6, xy18 6 (by decide)⟩
  | 18, 7 => exact ⟨xr18_7, xy18 7 (by decide)⟩
  | 18, 8 => exact ⟨xr18_8, xy18 8 (by decide)⟩
  | 18, 9 => exact ⟨xr18_9, xy18 9 (by decide)⟩
  | 18, 10 => exact ⟨xr18_10, xy18 10 (by decide)⟩
  | 18, 11 => exact ⟨xr18_11, xy18 11 (by decide)⟩
  | 18, 12 => exact ⟨xr18_12, xy18 12 (by decide)⟩
  | 18, 13 => exact ⟨xr18_13, xy18 13 (by decide)⟩
  | 18, 14 => exact ⟨xr18_14, xy18 14 (by decide)⟩
  | 18, 15 => exact ⟨xr18_15, xy18 15 (by decide)⟩
  | 18, 16 => exact ⟨xr18_16, xy18 16 (by decide)⟩
  | 18, 17 => exact ⟨xr18_17, xy18 17 (by decide)⟩
  | 18, 18 => exact ⟨xr18_18, xy18 18 (by decide)⟩
  | 18, 19 => exact ⟨xr18_19, xy18 19 (by decide)⟩
  | 18, 20 => exact ⟨xr18_20, xy18 20 (by decide)⟩
  | 18, 21 => exact ⟨xr18_21, xy18 21 (by decide)⟩
  | 18, 22 => exact ⟨xr18_22, xy18 22 (by decide)⟩
  | 18, 23 => exact ⟨xr18_23, xy18 23 (by decide)⟩
  | 18, 24 => exact ⟨xr18_24, xy18 24 (by decide)⟩
  | 18, 25 => exact ⟨xr18_25, xy18 25 (by decide)⟩
  | 18, 26 => exact ⟨xr18_26, xy18 26 (by decide)⟩
  | 18, 27 => exact ⟨xr18_27, xy18 27 (by decide)⟩
  | 18, 28 => exact ⟨xr18_28, xy18 28 (by decide)⟩
  | 18, 29 => exact ⟨xr18_29, xy18 29 (by decide)⟩
  | 18, 30 => exact ⟨xr18_30, xy18 30 (by decide)⟩
  | 18, 31 => exact ⟨xr18_31, xy18 31 (by decide)⟩
  | 18, 32 => exact ⟨xr18_32, xy18 32 (by decide)⟩
  | 18, 33 => exact ⟨xr18_33, xy18 33 (by decide)⟩
  | 18, 34 => exact ⟨xr18_34, xy18 34 (by decide)⟩
  | 18, 35 => exact ⟨xr18_35, xy18 35 (by decide)⟩
  | 18, 36 => exact ⟨xr18_36, xy18 36 (by decide)⟩
  | 18, i + 37 => exact xrow_nil
  | 19, 0 => exact ⟨xr19_0, xy19 0 (by decide)⟩
  | 19, 1 => exact ⟨xr19_1, xy19 1 (by decide)⟩
  | 19, 2 => exact ⟨xr19_2, xy19 2 (by decide)⟩
  | 19, 3 => exact ⟨xr19_3, xy19 3 (by decide)⟩
  | 19, 4 => exact ⟨xr19_4, xy19 4 (by decide)⟩
  | 19, 5 => exact ⟨xr19_5, xy19 5 (by decide)⟩
  | 19, 6 => exact ⟨xr19_6, xy19 6 (by decide)⟩
  | 19, 7 => exact ⟨xr19_7, xy19 7 (by decide)⟩
  | 19, 8 => exact ⟨xr19_8, xy19 8 (by decide)⟩
  | 19, 9 => exact ⟨xr19_9, xy19 9 (by decide)⟩
  | 19, 10 => exact ⟨xr19_10, xy19 10 (by decide)⟩
  | 19, 11 => exact ⟨xr19_11, xy19 11 (by decide)⟩
  | 19, 12 => exact ⟨xr19_12, xy19 12 (by decide)⟩
  | 19, 13 => exact ⟨xr19_13, xy19 13 (by decide)⟩
  | 19, 14 => exact ⟨xr19_14, xy19 14 (by decide)⟩
  | 19, 15 => exact ⟨xr19_15, xy19 15 (by decide)⟩
  | 19, 16 => exact ⟨xr19_16, xy19 16 (by decide)⟩
  | 19, 17 => exact ⟨xr19_17, xy19 17 (by decide)⟩
  | 19, 18 => exact ⟨xr19_18, xy19 18 (by decide)⟩
  | 19, 19 => exact ⟨xr19_19, xy19 19 (by decide)⟩
  | 19, 20 => exact ⟨xr19_20, xy19 20 (by decide)⟩
  | 19, 21 => exact ⟨xr19_21, xy19 21 (by decide)⟩
  | 19, 22 => exact ⟨xr19_22, xy19 22 (by decide)⟩
  | 19, 23 => exact ⟨xr19_23, xy19 23 (by decide)⟩
  | 19, 24 => exact ⟨xr19_24, xy19 24 (by decide)⟩
  | 19, 25 => exact ⟨xr19_25, xy19 25 (by decide)⟩
  | 19, 26 => exact ⟨xr19_26, xy19 26 (by decide)⟩
  | 19, 27 => exact ⟨xr19_27, xy19 27 (by decide)⟩
  | 19, 28 => exact ⟨xr19_28, xy19 28 (by decide)⟩
  | 19, 29 => exact ⟨xr19_29, xy19 29 (by decide)⟩
  | 19, 30 => exact ⟨xr19_30, xy19 30 (by decide)⟩
  | 19, 31 => exact ⟨xr19_31, xy19 31 (by decide)⟩
  | 19, 32 => exact ⟨xr19_32, xy19 32 (by decide)⟩
  | 19, 33 => exact ⟨xr19_33, xy19 33 (by decide)⟩
  | 19, 34 => exact ⟨xr19_34, xy19 34 (by decide)⟩
  | 19, 35 => exact ⟨xr19_35, xy19 35 (by decide)⟩
  | 19, i + 36 => exact xrow_nil
  | 20, 0 => exact ⟨xr20_0, xy20 0 (by decide)⟩
  | 20, 1 => exact ⟨xr20_1, xy20 1 (by decide)⟩
  | 20, 2 => exact ⟨xr20_2, xy20 2 (by decide)⟩
  | 20, 3 => exact ⟨xr20_3, xy20 3 (by decide)⟩
  | 20, 4 => exact ⟨xr20_4, xy20 4 (by decide)⟩
  | 20, 5 => exact ⟨xr20_5, xy20 5 (by decide)⟩
  | 20, 6 => exact ⟨xr20_6, xy20 6 (by decide)⟩
  | 20, 7 => exact ⟨xr20_7, xy20 7 (by decide)⟩
  | 20, 8 => exact ⟨xr20_8, xy20 8 (by decide)⟩
  | 20, 9 => exact ⟨xr20_9, xy20 9 (by decide)⟩
  | 20, 10 => exact ⟨xr20_10, xy20 10 (by decide)⟩
  | 20, 11 => exact ⟨xr20_11, xy20 11 (by decide)⟩
  | 20, 12 => exact ⟨xr20_12, xy20 12 (by decide)⟩
  | 20, 13 => exact ⟨xr20_13, xy20 13 (by decide)⟩
  | 20, 14 => exact ⟨xr20_14, xy20 14 (by decide)⟩
  | 20, 15 => exact ⟨xr20_15, xy20 15 (by decide)⟩
  | 20, 16 => exact ⟨xr20_16, xy20 16 (by decide)⟩
  | 20, 17 => exact ⟨xr20_17, xy20 17 (by decide)⟩
  | 20, 18 => exact ⟨xr20_18, xy20 18 (by decide)⟩
  | 20, 19 => exact ⟨xr20_19, xy20 19 (by decide)⟩
  | 20, 20 => exact ⟨xr20_20, xy20 20 (by decide)⟩
  | 20, 21 => exact ⟨xr20_21, xy20 21 (by decide)⟩
  | 20, 22 => exact ⟨xr20_22, xy20 22 (by decide)⟩
  | 20, 23 => exact ⟨xr20_23, xy20 23 (by decide)⟩
  | 20, 24 => exact ⟨xr20_24, xy20 24 (by decide)⟩
  | 20, 25 => exact ⟨xr20_25, xy20 25 (by decide)⟩
  | 20, 26 => exact ⟨xr20_26, xy20 26 (by decide)⟩
  | 20, 27 => exact ⟨xr20_27, xy20 27 (by decide)⟩
  | 20, 28 => exact ⟨xr20_28, xy20 28 (by decide)⟩
  | 20, 29 => exact ⟨xr20_29, xy20 29 (by decide)⟩
  | 20, 30 => exact ⟨xr20_30, xy20 30 (by decide)⟩
  | 20, 31 => exact ⟨xr20_31, xy20 31 (by decide)⟩
  | 20, 32 => exact ⟨xr20_32, xy20 32 (by decide)⟩
  | 20, 33 => exact ⟨xr20_33, xy20 33 (by decide)⟩
  | 20, 34 => exact ⟨xr20_34, xy20 34 (by decide)⟩
  | 20, 35 => exact ⟨xr20_35, xy20 35 (by decide)⟩
  | 20, 36 => exact ⟨xr20_36, xy20 36 (by decide)⟩
  | 20, 37 => exact ⟨xr20_37, xy20 37 (by decide)⟩
  | 20, 38 => exact ⟨xr20_38, xy20 38 (by decide)⟩
  | 20, 39 => exact ⟨xr20_39, xy20 39 (by decide)⟩
  | 20, 40 => exact ⟨xr20_40, xy20 40 (by decide)⟩
  | 20, 41 => exact ⟨xr20_41, xy20 41 (by decide)⟩
  | 20, 42 => exact ⟨xr20_42, xy20 42 (by decide)⟩
  | 20, 43 => exact ⟨xr20_43, xy20 43 (by decide)⟩
  | 20, 44 => exact ⟨xr20_44, xy20 44 (by decide)⟩
  | 20, 45 => exact ⟨xr20_45, xy20 45 (by decide)⟩
  | 20, 46 => exact ⟨xr20_46, xy20 46 (by decide)⟩
  | 20, 47 => exact ⟨xr20_47, xy20 47 (by decide)⟩
  | 20, 48 => exact ⟨xr20_48, xy20 48 (by decide)⟩
  | 20, 49 => exact ⟨xr20_49, xy20 49 (by decide)⟩
  | 20, 50 => exact ⟨xr20_50, xy20 50 (by decide)⟩
  | 20, 51 => exact ⟨xr20_51, xy20 51 (by decide)⟩
  | 20, 52 => exact ⟨xr20_52, xy20 52 (by decide)⟩
  | 20, 53 => exact ⟨xr20_53, xy20 53 (by decide)⟩
  | 20, 54 => exact ⟨xr20_54, xy20 54 (by decide)⟩
  | 20, 55 => exact ⟨xr20_55, xy20 55 (by decide)⟩
  | 20, 56 => exact ⟨xr20_56, xy20 56 (by decide)⟩
  | 20, i + 57 => exact xrow_nil
  | 21, 0 => exact ⟨xr21_0, xy21 0 (by decide)⟩
  | 21, 1 => exact ⟨xr21_1, xy21 1 (by decide)⟩
  | 21, 2 => exact ⟨xr21_2, xy21 2 (by decide)⟩
  | 21, 3 => exact ⟨xr21_3, xy21 3 (by decide)⟩
  | 21, 4 => exact ⟨xr21_4, xy21 4 (by decide)⟩
  | 21, 5 => exact ⟨xr21_5, xy21 5 (by decide)⟩
  | 21, 6 => exact ⟨xr21_6, xy21 6 (by decide)⟩
  | 21, 7 => exact ⟨xr21_7, xy21 7 (by decide)⟩
  | 21, 8 => exact ⟨xr21_8, xy21 8 (by decide)⟩
  | 21, 9 => exact ⟨xr21_9, xy21 9 (by decide)⟩
  | 21, 10 => exact ⟨xr21_10, xy21 10 (by decide)⟩
  | 21, 11 => exact ⟨xr21_11, xy21 11 (by decide)⟩
  | 21, 12 => exact ⟨xr21_12, xy21 12 (by decide)⟩
  | 21, 13 => exact ⟨xr21_13, xy21 13 (by decide)⟩
  | 21, 14 => exact ⟨xr21_14, xy21 14 (by decide)⟩
  | 21, 15 => exact ⟨xr21_15, xy21 15 (by decide)⟩
  | 21, 16 => exact ⟨xr21_16, xy21 16 (by decide)⟩
  | 21, 17 => exact ⟨xr21_17, xy21 17 (by decide)⟩
  | 21, 18 => exact ⟨xr21_18, xy21 18 (by decide)⟩
  | 21, 19 => exact ⟨xr21_19, xy21 19 (by decide)⟩
  | 21, 20 => exact ⟨xr21_20, xy21 20 (by decide)⟩
  | 21, 21 => exact ⟨xr21_21, xy21 21 (by decide)⟩
  | 21, 22 => exact ⟨xr21_22, xy21 22 (by decide)⟩
  | 21, 23 => exact ⟨xr21_23, xy21 23 (by decide)⟩
  | 21, 24 => exact ⟨xr21_24, xy21 24 (by decide)⟩
  | 21, 25 => exact ⟨xr21_25, xy21 25 (by decide)⟩
  | 21, 26 => exact ⟨xr21_26, xy21 26 (by decide)⟩
  | 21, 27 => exact ⟨xr21_27, xy21 27 (by decide)⟩
  | 21, 28 => exact ⟨xr21_28, xy21 28 (by decide)⟩
  | 21, 29 => exact ⟨xr21_29, xy21 29 (by decide)⟩
  | 21, 30 => exact ⟨xr21_30, xy21 30 (by decide)⟩
  | 21, 31 => exact ⟨xr21_31, xy21 31 (by decide)⟩
  | 21, 32 => exact ⟨xr21_32, xy21 32 (by decide)⟩
  | 21, 33 => exact ⟨xr21_33, xy21 33 (by decide)⟩
  | 21, 34 => exact ⟨xr21_34, xy21 34 (by decide)⟩
  | 21, 35 => exact ⟨xr21_35, xy21 35 (by decide)⟩
  | 21, 36 => exact ⟨xr21_36, xy21 36 (by decide)⟩
  | 21, 37 => exact ⟨xr21_37, xy21 37 (by decide)⟩
  | 21, 38 => exact ⟨xr21_38, xy21 38 (by decide)⟩
  | 21, 39 => exact ⟨xr21_39, xy21 39 (by decide)⟩
  | 21, 40 => exact ⟨xr21_40, xy21 40 (by decide)⟩
  | 21, 41 => exact ⟨xr21_41, xy21 41 (by decide)⟩
  | 21, 42 => exact ⟨xr21_42, xy21 42 (by decide)⟩
  | 21, 43 => exact ⟨xr21_43, xy21 43 (by decide)⟩
  | 21, 44 => exact ⟨xr21_44, xy21 44 (by decide)⟩
  | 21, 45 => exact ⟨xr21_45, xy21 45 (by decide)⟩
  | 21, 46 => exact ⟨xr21_46, xy21 46 (by decide)⟩
  | 21, 47 => exact ⟨xr21_47, xy21 47 (by decide)⟩
  | 21, 48 => exact ⟨xr21_48, xy21 48 (by decide)⟩
  | 21, 49 => exact ⟨xr21_49, xy21 49 (by decide)⟩
  | 21, 50 => exact ⟨xr21_50, xy21 50 (by decide)⟩
  | 21, 51 => exact ⟨xr21_51, xy21 51 (by decide)⟩
  | 21, 52 => exact ⟨xr21_52, xy21 52 (by decide)⟩
  | 21, 53 => exact ⟨xr21_53, xy21 53 (by decide)⟩
  | 21, 54 => exact ⟨xr21_54, xy21 54 (by decide)⟩
  | 21, 55 => exact ⟨xr21_55, xy21 55 (by decide)⟩
  | 21, 56 => exact ⟨xr21_56, xy21 56 (by decide)⟩
  | 21, 57 => exact ⟨xr21_57, xy21 57 (by decide)⟩
  | 21, 58 => exact ⟨xr21_58, xy21 58 (by decide)⟩
  | 21, 59 => exact ⟨xr21_59, xy21 59 (by decide)⟩
  | 21, 60 => exact ⟨xr21_60, xy21 60 (by decide)⟩
  | 21, 61 => exact ⟨xr21_61, xy21 61 (by decide)⟩
  | 21, 62 => exact ⟨xr21_62, xy21 62 (by decide)⟩
  | 21, 63 => exact ⟨xr21_63, xy21 63 (by decide)⟩
  | 21, 64 => exact ⟨xr21_64, xy21 64 (by decide)⟩
  | 21, 65 => exact ⟨xr21_65, xy21 65 (by decide)⟩
  | 21, 66 => exact ⟨xr21_66, xy21 66 (by decide)⟩
  | 21, 67 => exact ⟨xr21_67, xy21 67 (by decide)⟩
  | 21, 68 => exact ⟨xr21_68, xy21 68 (by decide)⟩
  | 21, 69 => exact ⟨xr21_69, xy21 69 (by decide)⟩
  | 21, 70 => exact ⟨xr21_70, xy21 70 (by decide)⟩
  | 21, 71 => exact ⟨xr21_71, xy21 71 (by decide)⟩
  | 21, 72 => exact ⟨xr21_72, xy21 72 (by decide)⟩
  | 21, 73 => exact ⟨xr21_73, xy21 73 (by decide)⟩
  | 21, 74 => exact ⟨xr21_74, xy21 74 (by decide)⟩
  | 21, 75 => exact ⟨xr21_75, xy21 75 (by decide)⟩
  | 21, 76 => exact ⟨xr21_76, xy21 76 (by decide)⟩
  | 21, 77 => exact ⟨xr21_77, xy21 77 (by decide)⟩
  | 21, 78 => exact ⟨xr21_78, xy21 78 (by decide)⟩
  | 21, 79 => exact ⟨xr21_79, xy21 79 (by decide)⟩
  | 21, 80 => exact ⟨xr21_80, xy21 80 (by decide)⟩
  | 21, i + 81 => exact xrow_nil
  | 22, 0 => exact ⟨xr22_0, xy22 0 (by decide)⟩
  | 22, i + 1 => exact xrow_nil
  | c + 23, i => exact xrow_nil
theorem xexi : ∀ a, a < 22 → (a, xnf a) ∈ xIN := by decide +kernel
theorem xAO_w : Cond.arrayOver (.object (xcn 20)) ∈ tables_1 := xsub_in _ [Cond.arrayOver (.object (xcn 20))] (by decide +kernel) _ List.mem_cons_self
theorem x_arrs {s : State} {args : Array Value} {ty : FieldType} (h : (Cond.arrayClass ty).before args s = true) (hp : ∀ C, ty ≠ .object C) : ∃ c : ClassId, ArrOfT s c ty ∧ va_RA s c ty := by
  obtain ⟨c, k, comp, h1, h2, h3⟩ := Cond.arrayClass_spec h
  refine ⟨c, fun n z => ⟨fun k h => (by cases h), k, h2, comp, h3⟩, ?_⟩
  cases ty with
  | object C => exact absurd rfl (hp C)
  | _ => exact h1
theorem x_envs {s : State} {args : Array Value} (hts : ∀ w ∈ lw_tbl, w.before args s = true) : ∃ (D : va_G) (cA : Nat → ClassId), va_K D vwCl [(cA 100, xaty 100), (cA 101, xaty 101), (cA 102, xaty 102), (cA 103, xaty 103), (cA 104, xaty 104), (cA 130, xaty 130)] s := by
  have ht : ∀ w ∈ tables_1, w.before args s = true := fun w h => hts w (List.mem_append_right _ h)
  have hex : ∀ c : Nat, ∃ q : ClassId × (Nat → Nat), ∀ r : vw_C, vwCl[c]? = some r → u_Kn s r.1 r.2.1 r.2.2 q.1 q.2 := by
    intro c
    by_cases hc : c < 22
    · obtain ⟨C, c1, c2, c3, -⟩ := xcok_all c hc
      have hi := ht _ (x_in (fun e : Nat × Nat => Cond.instantiable (xcn e.1) e.2) xIN_ok (xexi c hc))
      dsimp only at hi
      rw [c2] at hi
      obtain ⟨cC, iS, hK⟩ := u_known (N := xnf c) (T := xTb c) (fun w h => hts w (List.mem_filter.mp h).1) c3 hi
      exact ⟨(cC, iS), fun r hr => by rw [c1] at hr; cases hr; exact hK⟩
    · refine ⟨(0, fun _ => 0), fun r hr => ?_⟩
      have : c < vwCl.length := (List.getElem?_eq_some_iff.mp hr).1
      exact absurd this (by show ¬ c < 22; exact hc)
  obtain ⟨a0, b0⟩ := x_arrs (ht _ (xsub_in _ _ xAC_ok (.arrayClass .int) (by decide))) (fun C h => by cases h)
  obtain ⟨a1, b1⟩ := x_arrs (ht _ (xsub_in _ _ xAC_ok (.arrayClass .long) (by decide))) (fun C h => by cases h)
  obtain ⟨a2, b2⟩ := x_arrs (ht _ (xsub_in _ _ xAC_ok (.arrayClass .byte) (by decide))) (fun C h => by cases h)
  obtain ⟨a3, b3⟩ := x_arrs (ht _ (xsub_in _ _ xAC_ok (.arrayClass .boolean) (by decide))) (fun C h => by cases h)
  obtain ⟨a4, b4⟩ := x_arrs (ht _ (xsub_in _ _ xAC_ok (.arrayClass .char) (by decide))) (fun C h => by cases h)
  obtain ⟨comp, a5, kA, h1, h2, h3, h4, h5⟩ := Cond.arrayOver_spec (ht _ xAO_w)
  refine ⟨(fun c => (Classical.choose (hex c)).1, fun c => (Classical.choose (hex c)).2), fun t => if t = 100 then a0 else if t = 101 then a1 else if t = 102 then a2 else if t = 103 then a3 else if t = 104 then a4 else a5, fun c q hq => Classical.choose_spec (hex c) q hq, ?_⟩
  intro k q hk
  match k, hk with
  | 0, hk => cases hk; exact b0
  | 1, hk => cases hk; exact b1
  | 2, hk => cases hk; exact b2
  | 3, hk => cases hk; exact b3
  | 4, hk => cases hk; exact b4
  | 5, hk => cases hk; exact ⟨fun n z => ⟨fun k h => (by cases h), kA, h3, comp, h4⟩, kA, comp, h3, h4, h1, h5⟩
  | k + 6, hk => simp at hk
/-- the static arrays at the start -/
def x_sx (args : Array Value) (s : State) (k : Nat) (q : Nat × Cell) : Prop := va_Z (xgs k).1 (xgs k).2.1 (xgs k).2.2 (.ref q.1) (fun a => s.heap.size ≤ a) s s.heap ∧ s.heap[q.1]? = some q.2 ∧ s.isArrayOf q.2 (xaty (xsh xmh k).1) ∧ q.2.vm ≠ .unknown ∧ ((xsh xmh k).2 ≤ q.2.slots.size ∧ q.2.slots.size.toInt32 = Int32.ofNat (xsh xmh k).2) ∧ ∀ j, j < (xsh xmh k).2 → q.2.slots[j]? = some (xval xmh (xkind (xsh xmh k).1 j) k j)
theorem x_s1 {args : Array Value} {s : State} (k : Nat) (hts : ∀ w ∈ tables_1, w.before args s = true) (hN : (xsh xmh k).2 < 2 ^ 31) (hl : Cond.laysStatic (xgs k).1 (xgs k).2.1 (xgs k).2.2 ∈ tables_1) (hi : Cond.initialized (xgs k).1 ∈ tables_1)
    (h1 : (Cond.arrayOf (.static (xgs k).1 (xgs k).2.1 (xgs k).2.2) (xaty (xsh xmh k).1)).before args s = true) (h2 : (Term.length (.static (xgs k).1 (xgs k).2.1 (xgs k).2.2)).eval args s none [] s = some (.int (Int32.ofNat (xsh xmh k).2)))
    (h3 : ∀ j, j < (xsh xmh k).2 → (Term.elem (.static (xgs k).1 (xgs k).2.1 (xgs k).2.2) (.int (Int32.ofNat j))).eval args s none [] s = some (xval xmh (xkind (xsh xmh k).1 j) k j)) : ∃ q, x_sx args s k q := by
  obtain ⟨t, ht, cell, g1, g2, g3, g4, g5, g6, g7⟩ := va_Tof (N := (xsh xmh k).2) (f := fun j => xval xmh (xkind (xsh xmh k).1 j) k j) (A := fun a => s.heap.size ≤ a) hN h1 h2 h3 (fun a h => Nat.not_le.mpr h)
  exact ⟨(t, cell), va_Zref (hts _ hl) (hts _ hi) ht (fun a h => Nat.not_le.mpr h), g1, g2, g3, ⟨g4, g5⟩, g6⟩
theorem x_stats {args : Array Value} {s : State} (hts : ∀ w ∈ tables_1, w.before args s = true) (hgv : (Jvm.Cond.and given_1 narrow_1).before args s = true) : ∃ q : Nat → Nat × Cell, ∀ k, 1 ≤ k → k ≤ 5 → x_sx args s k (q k) := by
  have hs := flat_of_before _ hgv
  have e1 : ∃ q, x_sx args s 1 q := x_s1 1 hts (by decide) (xJS_w (by decide +kernel)) (xJS_w (by decide +kernel)) (hs _ (by decide +kernel)) (va_eqt (hs _ (by decide +kernel))) (fun j hj => va_eqtl (hs (.eq (.elem (.static (xgs 1).1 (xgs 1).2.1 (xgs 1).2.2) (.int (Int32.ofNat j))) (.long (xmh.2.1 1 j))) ((by decide +kernel : ∀ j, j < 7 → Cond.eq (.elem (.static (xgs 1).1 (xgs 1).2.1 (xgs 1).2.2) (.int (Int32.ofNat j))) (.long (xmh.2.1 1 j)) ∈ flatC (Jvm.Cond.and given_1 narrow_1)) j hj)))
  have e2 : ∃ q, x_sx args s 2 q := x_s1 2 hts (by decide) (xJS_w (by decide +kernel)) (xJS_w (by decide +kernel)) (hs _ (by decide +kernel)) (va_eqt (hs _ (by decide +kernel))) (fun j hj => va_eqt (hs (.eq (.elem (.static (xgs 2).1 (xgs 2).2.1 (xgs 2).2.2) (.int (Int32.ofNat j))) (.int (xmh.1 2 j))) ((by decide +kernel : ∀ j, j < 10 → Cond.eq (.elem (.static (xgs 2).1 (xgs 2).2.1 (xgs 2).2.2) (.int (Int32.ofNat j))) (.int (xmh.1 2 j)) ∈ flatC (Jvm.Cond.and given_1 narrow_1)) j hj)))
  have e3 : ∃ q, x_sx args s 3 q := x_s1 3 hts (by decide) (xJS_w (by decide +kernel)) (xJS_w (by decide +kernel)) (hs _ (by decide +kernel)) (va_eqt (hs _ (by decide +kernel))) (fun j hj => va_eqt (hs (.eq (.elem (.static (xgs 3).1 (xgs 3).2.1 (xgs 3).2.2) (.int (Int32.ofNat j))) (.int (xmh.1 3 j))) ((by decide +kernel : ∀ j, j < 4 → Cond.eq (.elem (.static (xgs 3).1 (xgs 3).2.1 (xgs 3).2.2) (.int (Int32.ofNat j))) (.int (xmh.1 3 j)) ∈ flatC (Jvm.Cond.and given_1 narrow_1)) j hj)))
  have e4 : ∃ q, x_sx args s 4 q := x_s1 4 hts (by decide) (xJS_w (by decide +kernel)) (xJS_w (by decide +kernel)) (hs _ (by decide +kernel)) (va_eqt (hs _ (by decide +kernel))) (fun j hj => va_eqt (hs (.eq (.elem (.static (xgs 4).1 (xgs 4).2.1 (xgs 4).2.2) (.int (Int32.ofNat j))) (.int (xmh.1 4 j))) ((by decide +kernel : ∀ j, j < 8 → Cond.eq (.elem (.static (xgs 4).1 (xgs 4).2.1 (xgs 4).2.2) (.int (Int32.ofNat j))) (.int (xmh.1 4 j)) ∈ flatC (Jvm.Cond.and given_1 narrow_1)) j hj)))
  have e5 : ∃ q, x_sx args s 5 q := x_s1 5 hts (by decide) (xJS_w (by decide +kernel)) (xJS_w (by decide +kernel)) (hs _ (by decide +kernel)) (va_eqt (hs _ (by decide +kernel))) (fun j hj => va_eqt (hs (.eq (.elem (.static (xgs 5).1 (xgs 5).2.1 (xgs 5).2.2) (.int (Int32.ofNat j))) (.int (xmh.1 5 j))) ((by decide +kernel : ∀ j, j < 64 → Cond.eq (.elem (.static (xgs 5).1 (xgs 5).2.1 (xgs 5).2.2) (.int (Int32.ofNat j))) (.int (xmh.1 5 j)) ∈ flatC (Jvm.Cond.and given_1 narrow_1)) j hj)))
  refine ⟨fun k => if k = 1 then Classical.choose e1 else if k = 2 then Classical.choose e2 else if k = 3 then Classical.choose e3 else if k = 4 then Classical.choose e4 else Classical.choose e5, fun k h1 h2 => ?_⟩
  have hk : k = 1 ∨ k = 2 ∨ k = 3 ∨ k = 4 ∨ k = 5 := by omega
  rcases hk with rfl | rfl | rfl | rfl | rfl
  · exact Classical.choose_spec e1
  · exact Classical.choose_spec e2
  · exact Classical.choose_spec e3
  · exact Classical.choose_spec e4
  · exact Classical.choose_spec e5
/-- out of a run: the law ends with 1 -/
theorem x_start {p : Program} {e : Env} {s : State} {m : MethodId} {below : List Frame} {meth : Method} {c : Code} (l : Launch) {b L : Nat} {xs : Nat → Int32} (C0 : lw_At p s m meth c b L xs) {f d : Nat} {mF : XM} (hd : d ≤ 1600)
    (h : xgo (xrun xP f) d (xP 22 0) 0 [(0, .ref 0)] [] (xm0 L xs) = some (some (.int 1), mF)) (hc : xn mF ≤ 600000) (hw : xw mF ≤ 7302250) : W p l e room_1 s m #[Value.ref b] below meth c s.heap [] 0 0 (lw_Z below #[Value.ref b] s) (entryFrame m ([Value.ref b] : List Value).toArray 4) := by
  obtain ⟨hx, hb, hr, hml, hown, hts, hX, hbl, hlocks, hgv⟩ := id C0
  obtain ⟨scr, g1, g2, g3, g4, g5⟩ := hX
  obtain ⟨D, cA, hK⟩ := x_envs hts
  obtain ⟨q, hq⟩ := x_stats (fun w h => hts w (List.mem_append_right _ h)) hgv
  obtain ⟨tq, htq⟩ := t_texts (fun w h => hts w (List.mem_append_right _ h)) hgv
  have htl : ∀ i, i < 29 → (tq i).1 < s.heap.size := fun i hi => by
    obtain ⟨cell, g1, -⟩ := (htq i hi).2.2.2.1
    exact (Array.getElem?_eq_some_iff.mp g1).1
  have hlt : ∀ k, 1 ≤ k → k ≤ 5 → (q k).1 < s.heap.size := fun k h1 h2 => (Array.getElem?_eq_some_iff.mp (hq k h1 h2).2.1).1
  have hA : xEad (D, cA, (fun k => if k < x0 then (if 1 ≤ k ∧ k ≤ 5 then (q k).1 else if 10 ≤ k ∧ k < 39 then (tq (k - 10)).1 else b) else s.heap.size + (k - x0)), s.heap.size, fun k => if k = 0 then (100, scr) else if 1 ≤ k ∧ k ≤ 5 then ((xsh xmh k).1, (q k).2) else (0, scr)) := by
    refine ⟨fun k hk => ?_, fun k hk => ?_⟩
    · show (if k < x0 then (if 1 ≤ k ∧ k ≤ 5 then (q k).1 else if 10 ≤ k ∧ k < 39 then (tq (k - 10)).1 else b) else _) < _
      rw [if_pos hk]
      split
      · next h => exact hlt k h.1 h.2
      · split
        · next h => exact htl (k - 10) (by omega)
        · exact hbl
    · show (if k < x0 then _ else _) = _
      rw [if_neg (Nat.not_lt.mpr hk)]
  generalize hE9 : ((D, cA, (fun k => if k < x0 then (if 1 ≤ k ∧ k ≤ 5 then (q k).1 else if 10 ≤ k ∧ k < 39 then (tq (k - 10)).1 else b) else s.heap.size + (k - x0)), s.heap.size, fun k => if k = 0 then (100, scr) else if 1 ≤ k ∧ k ≤ 5 then ((xsh xmh k).1, (q k).2) else (0, scr)) : XE) = E at hA
  have hbase : xbase E = s.heap.size := by rw [← hE9]
  have had : xad E 0 = b := by rw [← hE9]; rfl
  have hads : ∀ k, 1 ≤ k → k ≤ 5 → xad E k = (q k).1 := fun k h1 h2 => by
    rw [← hE9]
    show (if k < x0 then (if 1 ≤ k ∧ k ≤ 5 then (q k).1 else if 10 ≤ k ∧ k < 39 then (tq (k - 10)).1 else b) else _) = _
    rw [if_pos (by unfold x0; omega), if_pos ⟨h1, h2⟩]
  have hoc0 : xoc E 0 = (100, scr) := by rw [← hE9]; rfl
  have hocs : ∀ k, 1 ≤ k → k ≤ 5 → xoc E k = ((xsh xmh k).1, (q k).2) := fun k h1 h2 => by
    rw [← hE9]
    show (if k = 0 then (100, scr) else if 1 ≤ k ∧ k ≤ 5 then ((xsh xmh k).1, (q k).2) else (0, scr)) = _
    rw [if_neg (by omega), if_pos ⟨h1, h2⟩]
  have hocn : ∀ k, 5 < k → xoc E k = (0, scr) := fun k h1 => by
    rw [← hE9]
    show (if k = 0 then (100, scr) else if 1 ≤ k ∧ k ≤ 5 then ((xsh xmh k).1, (q k).2) else (0, scr)) = _
    rw [if_neg (by omega), if_neg (by omega)]
  have hkk : ∀ k : Nat, k = 0 ∨ (1 ≤ k ∧ k ≤ 5) ∨ 5 < k := fun k => by omega
  have hE : xEnv E s := by
    refine ⟨by rw [← hE9]; exact hK, fun k h1 h2 => ?_, fun e he => va_Nw.of rfl (hts _ (List.mem_append_right _ (x_in xfn xFN_ok he))), fun e he => va_Nw.of rfl (hts _ (List.mem_append_right _ (x_in xmv xMN_ok he))), va_AO.of (hts _ (List.mem_append_right _ xAO_w))⟩
    rcases hkk k with rfl | h3 | h3
    · rw [hoc0]; exact ⟨g2, g3⟩
    · rw [hocs k h3.1 h3.2]; exact ⟨(hq k h3.1 h3.2).2.2.1, (hq k h3.1 h3.2).2.2.2.1⟩
    · rw [hocn k h3] at h2; exact absurd h2 (Nat.not_succ_le_zero 99)
  have hadt : ∀ i, i < 29 → xad E (10 + i) = (tq i).1 := fun i hi => by
    rw [← hE9]
    show (if 10 + i < x0 then (if 1 ≤ 10 + i ∧ 10 + i ≤ 5 then (q (10 + i)).1 else if 10 ≤ 10 + i ∧ 10 + i < 39 then (tq (10 + i - 10)).1 else b) else _) = _
    rw [if_pos (by unfold x0; omega), if_neg (by omega), if_pos (by omega), Nat.add_sub_cancel_left]
  have hAe : xA E = fun a => s.heap.size ≤ a := by
    funext a
    unfold xA
    rw [hbase]
  have hZ : xStat E s s.heap := by
    refine ⟨fun k h1 h2 => ?_, fun i hi => ?_⟩
    · rw [hads k h1 h2]
      exact (hq k h1 h2).1.narrow fun a h => by
        unfold xA at h
        rw [hbase] at h
        exact h
    · rw [hadt i hi, hAe]
      exact ⟨(htq i hi).1, (tq i).2, (htq i hi).2⟩
  have hshn : ∀ k, 5 < k → xsh (xm0 L xs) k = (0, 0) := fun k h => by
    show (if k = 0 then (100, L) else xsh xmh k) = _
    rw [if_neg (by omega)]
    match k, h with
    | k + 6, _ => rfl
  have hshs : ∀ k, 1 ≤ k → xsh (xm0 L xs) k = xsh xmh k := fun k h => if_neg (by omega)
  have hR : xRep E (xm0 L xs) s.heap := by
    refine ⟨⟨Nat.le_refl _, by rw [hbase]; rfl⟩, fun k h1 h2 => absurd h2 (Nat.not_lt.mpr h1), fun k h1 h2 => ?_⟩
    rcases hkk k with rfl | h3 | h3
    · refine ⟨by rw [hoc0]; rfl, by rw [had, hoc0]; exact g1, by rw [hoc0]; exact ⟨Nat.le_of_eq g4.symm, by show scr.slots.size.toInt32 = Int32.ofNat L; rw [g4]⟩, fun j hj => ?_⟩
      rw [hoc0]
      exact g5 j hj
    · have h9 := hq k h3.1 h3.2
      have hk0 : k ≠ 0 := by omega
      rw [hshs k h3.1]
      refine ⟨by rw [hocs k h3.1 h3.2], by rw [hads k h3.1 h3.2, hocs k h3.1 h3.2]; exact h9.2.1, by rw [hocs k h3.1 h3.2]; exact h9.2.2.2.2.1, fun j hj => ?_⟩
      rw [hocs k h3.1 h3.2]
      rw [h9.2.2.2.2.2 j hj]
      unfold xel
      rw [hshs k h3.1, show xval (xm0 L xs) _ k j = _ from xsc_val hk0 _ _]
      have hkd : xkind (xsh xmh k).1 j = 0 ∨ xkind (xsh xmh k).1 j = 1 := by
        have h8 : k = 1 ∨ k = 2 ∨ k = 3 ∨ k = 4 ∨ k = 5 := by omega
        rcases h8 with rfl | rfl | rfl | rfl | rfl <;> first | exact Or.inl rfl | exact Or.inr rfl
      rcases hkd with h8 | h8 <;> rw [h8] <;> rfl
    · rw [hshn k h3] at h2; exact absurd h2 (by decide)
  have hKn : xKn (xm0 L xs) := fun k h1 h2 => absurd h2 (Nat.not_lt.mpr h1)
  have hO : xOld (xm0 L xs) := fun k hk => by
    rcases hkk k with rfl | h3 | h3
    · exact Nat.le_succ 100
    · rw [hshs k h3.1]
      have h8 : k = 1 ∨ k = 2 ∨ k = 3 ∨ k = 4 ∨ k = 5 := by omega
      rcases h8 with rfl | rfl | rfl | rfl | rfl <;> decide
    · rw [hshn k h3]; decide
  have hl := lv_entry ([.ref b] : List Value) (n := 4) (Nat.le_of_ble_eq_true rfl)
  rw [lg_entry_eq]
  generalize (lg_sl ([.ref b] : List Value) ++ List.replicate (4 - (lg_sl ([.ref b] : List Value)).length) Slot.unset).toArray = ls at hl ⊢
  have hl' : lv_has ls 4 (xlv E [(0, .ref 0)]) := by
    have e1 : xlv E [(0, .ref 0)] = lv_args 0 [.ref b] := by
      show [(0, Value.ref (xad E 0))] = [(0, Value.ref b)]
      rw [had]
    rw [e1]; exact hl
  rw [xgo_eq] at h
  have hts' : ∀ z ∈ xW, z.before #[Value.ref b] s = true := fun z hz => hts z (List.mem_filter.mp hz).1
  have hk := x_sound (l := l) (E := E) hA xPok_all f d (xP 22 0) _ _ _ _ _ _ _ h (xPok_all 22 0).2 0 (xfind_ok (xPok_all 22 0).2 0) (p := p) (e := e) (R := room_1) (s := s) (mm := m) (args := #[Value.ref b]) (below := below) (meth := meth) (c := c) (Q := lw_Z below #[Value.ref b] s) (H := s.heap) (H0 := s.heap) (locs := []) (ls := ls) (nE := 40) (wE := 0)
    hx hb hml hts' hown (fun h9 => absurd h9 (by decide +kernel)) hE (by show d + 5 ≤ 2048; omega) (by show 50 * (d + 5) ≤ 84000; omega) (by show xn mF - 40 ≤ 600000; omega) (by show xw mF - 0 ≤ 7302250; omega) (Nat.le_refl _) (Nat.zero_le _) hR hKn hO va_S.rf hl' ⟨by rw [hbase]; exact Nat.le_refl _, rfl, hZ⟩ ?_
  · exact hk
  · intro i st1 H1 locs1 ls1 pc1 hret hdd hR1 hK1 hO1 hS1
    have h1 : i = .ireturn ∧ st1 = [.int 1] := by
      unfold xret at hret
      split at hret
      · split at hret
        · split at hret
          · cases hret
          · cases hret
        · cases hret
      · split at hret
        · split at hret
          · cases hret; exact ⟨rfl, rfl⟩
          · split at hret
            · cases hret; exact ⟨rfl, rfl⟩
            · cases hret
          · split at hret
            · cases hret; exact ⟨rfl, rfl⟩
            · cases hret
          · cases hret
        · cases hret
      · split at hret
        · split at hret <;> cases hret
        · cases hret
      · split at hret
        · split at hret <;> cases hret
        · cases hret
      · cases hret
    obtain ⟨rfl, rfl⟩ := h1
    refine va_forget (fun q hq => ?_) ?_
    · have h9 := hS1.2.2 q hq
      unfold xA at h9
      rw [hbase] at h9
      exact h9
    · exact W.widen (by omega) (by omega) (lw_ret hx hb hr hlocks hdd)
