/-! the code of class 18, in stretches -/
def xk18_0 : XB := []
def xk18_1 : XB := []
def xk18_2 : XB := []
def xk18_3 : XB := []
def xk18_4 : XB := []
def xk18_5 : XB := []
def xk18_6 : XB := []
def xk18_7 : XB := []
def xk18_8 : XB := []
def xk18_9 : XB := []
def xk18_10 : XB := []
def xk18_11 : XB := []
def xk18_12 : XB := []
def xk18_13 : XB := []
def xk18_14 : XB := []
def xk18_15 : XB := []
def xk18_16 : XB := []
def xk18_17 : XB := []
def xk18_18 : XB := []
def xk18_19 : XB := []
def xk18_20 : XB := []
def xk18_21 : XB := []
def xk18_22 : XB := []
def xk18_23 : XB := []
def xk18_24 : XB := []
def xk18_25 : XB := []
def xk18_26 : XB := []
def xk18_27 : XB := []
def xk18_28 : XB := []
def xk18_29 : XB := []
def xk18_30 : XB := []
def xk18_31 : XB := []
def xk18_32 : XB := []
def xk18_33 : XB := []
def xk18_34 : XB := []
def xk18_35 : XB := []
def xk18_36 : XB := []
def xk18 : List XB := [xk18_0, xk18_1, xk18_2, xk18_3, xk18_4, xk18_5, xk18_6, xk18_7, xk18_8, xk18_9, xk18_10, xk18_11, xk18_12, xk18_13, xk18_14, xk18_15, xk18_16, xk18_17, xk18_18, xk18_19, xk18_20, xk18_21, xk18_22, xk18_23, xk18_24, xk18_25, xk18_26, xk18_27, xk18_28, xk18_29, xk18_30, xk18_31, xk18_32, xk18_33, xk18_34, xk18_35, xk18_36]
theorem xr18_0 : xRowOk (18, xmn 18 0, prog_21_method_23_code, 2, none, xk18_0) = true := by decide +kernel
theorem xr18_1 : xRowOk (18, xmn 18 1, prog_21_method_20_code, 5, (some .int), xk18_1) = true := by decide +kernel
theorem xr18_2 : xRowOk (18, xmn 18 2, prog_21_method_10_code, 15, (some .boolean), xk18_2) = true := by decide +kernel
theorem xr18_3 : xRowOk (18, xmn 18 3, prog_21_method_35_code, 5, (some .boolean), xk18_3) = true := by decide +kernel
theorem xr18_4 : xRowOk (18, xmn 18 4, prog_21_method_11_code, 5, (some .boolean), xk18_4) = true := by decide +kernel
theorem xr18_5 : xRowOk (18, xmn 18 5, prog_21_method_1_code, 1, none, xk18_5) = true := by decide +kernel
theorem xr18_6 : xRowOk (18, xmn 18 6, prog_21_method_39_code, 8, (some .boolean), xk18_6) = true := by decide +kernel
theorem xr18_7 : xRowOk (18, xmn 18 7, prog_21_method_40_code, 4, (some .boolean), xk18_7) = true := by decide +kernel
theorem xr18_8 : xRowOk (18, xmn 18 8, prog_21_method_5_code, 1, (some .boolean), xk18_8) = true := by decide +kernel
theorem xr18_9 : xRowOk (18, xmn 18 9, prog_21_method_12_code, 3, (some .boolean), xk18_9) = true := by decide +kernel
theorem xr18_10 : xRowOk (18, xmn 18 10, prog_21_method_4_code, 4, (some .boolean), xk18_10) = true := by decide +kernel
theorem xr18_11 : xRowOk (18, xmn 18 11, prog_21_method_3_code, 2, (some .boolean), xk18_11) = true := by decide +kernel
theorem xr18_12 : xRowOk (18, xmn 18 12, prog_21_method_8_code, 5, none, xk18_12) = true := by decide +kernel
theorem xr18_13 : xRowOk (18, xmn 18 13, prog_21_method_19_code, 5, none, xk18_13) = true := by decide +kernel
theorem xr18_14 : xRowOk (18, xmn 18 14, prog_21_method_18_code, 7, none, xk18_14) = true := by decide +kernel
theorem xr18_15 : xRowOk (18, xmn 18 15, prog_21_method_14_code, 9, none, xk18_15) = true := by decide +kernel
theorem xr18_16 : xRowOk (18, xmn 18 16, prog_21_method_15_code, 5, none, xk18_16) = true := by decide +kernel
theorem xr18_17 : xRowOk (18, xmn 18 17, prog_21_method_13_code, 8, none, xk18_17) = true := by decide +kernel
theorem xr18_18 : xRowOk (18, xmn 18 18, prog_21_method_26_code, 7, (some .boolean), xk18_18) = true := by decide +kernel
theorem xr18_19 : xRowOk (18, xmn 18 19, prog_21_method_27_code, 7, (some .int), xk18_19) = true := by decide +kernel
theorem xr18_20 : xRowOk (18, xmn 18 20, prog_21_method_7_code, 3, (some .int), xk18_20) = true := by decide +kernel
theorem xr18_21 : xRowOk (18, xmn 18 21, prog_21_method_17_code, 3, (some .int), xk18_21) = true := by decide +kernel
theorem xr18_22 : xRowOk (18, xmn 18 22, prog_21_method_16_code, 3, (some .int), xk18_22) = true := by decide +kernel
theorem xr18_23 : xRowOk (18, xmn 18 23, prog_21_method_37_code, 2, (some .int), xk18_23) = true := by decide +kernel
theorem xr18_24 : xRowOk (18, xmn 18 24, prog_21_method_9_code, 3, (some .int), xk18_24) = true := by decide +kernel
theorem xr18_25 : xRowOk (18, xmn 18 25, prog_21_method_36_code, 4, (some .int), xk18_25) = true := by decide +kernel
theorem xr18_26 : xRowOk (18, xmn 18 26, prog_21_method_33_code, 4, (some .int), xk18_26) = true := by decide +kernel
theorem xr18_27 : xRowOk (18, xmn 18 27, prog_21_method_32_code, 1, (some .int), xk18_27) = true := by decide +kernel
theorem xr18_28 : xRowOk (18, xmn 18 28, prog_21_method_21_code, 4, none, xk18_28) = true := by decide +kernel
theorem xr18_29 : xRowOk (18, xmn 18 29, prog_21_method_28_code, 8, (some .int), xk18_29) = true := by decide +kernel
theorem xr18_30 : xRowOk (18, xmn 18 30, prog_21_method_29_code, 6, (some .boolean), xk18_30) = true := by decide +kernel
theorem xr18_31 : xRowOk (18, xmn 18 31, prog_21_method_6_code, 3, (some .int), xk18_31) = true := by decide +kernel
theorem xr18_32 : xRowOk (18, xmn 18 32, prog_21_method_24_code, 4, (some .int), xk18_32) = true := by decide +kernel
theorem xr18_33 : xRowOk (18, xmn 18 33, prog_21_method_2_code, 1, (some .int), xk18_33) = true := by decide +kernel
theorem xr18_34 : xRowOk (18, xmn 18 34, prog_21_method_41_code, 6, (some .int), xk18_34) = true := by decide +kernel
theorem xr18_35 : xRowOk (18, xmn 18 35, prog_21_method_22_code, 6, (some .boolean), xk18_35) = true := by decide +kernel
theorem xr18_36 : xRowOk (18, xmn 18 36, prog_21_method_25_code, 10, (some .int), xk18_36) = true := by decide +kernel
