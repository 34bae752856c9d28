/-! the code of class 17, in stretches -/
def xk17_0 : XB := []
def xk17_1 : XB := []
def xk17_2 : XB := []
def xk17_3 : XB := []
def xk17_4 : XB := []
def xk17_5 : XB := []
def xk17_6 : XB := []
def xk17_7 : XB := []
def xk17_8 : XB := []
def xk17_9 : XB := []
def xk17_10 : XB := []
def xk17_11 : XB := []
def xk17_12 : XB := []
def xk17_13 : XB := []
def xk17_14 : XB := []
def xk17_15 : XB := []
def xk17_16 : XB := []
def xk17_17 : XB := []
def xk17_18 : XB := []
def xk17_19 : XB := []
def xk17_20 : XB := []
def xk17_21 : XB := []
def xk17_22 : XB := []
def xk17_23 : XB := []
def xk17_24 : XB := []
def xk17_25 : XB := []
def xk17_26 : XB := []
def xk17_27 : XB := []
def xk17_28 : XB := []
def xk17_29 : XB := []
def xk17_30 : XB := []
def xk17_31 : XB := []
def xk17_32 : XB := []
def xk17_33 : XB := []
def xk17 : List XB := [xk17_0, xk17_1, xk17_2, xk17_3, xk17_4, xk17_5, xk17_6, xk17_7, xk17_8, xk17_9, xk17_10, xk17_11, xk17_12, xk17_13, xk17_14, xk17_15, xk17_16, xk17_17, xk17_18, xk17_19, xk17_20, xk17_21, xk17_22, xk17_23, xk17_24, xk17_25, xk17_26, xk17_27, xk17_28, xk17_29, xk17_30, xk17_31, xk17_32, xk17_33]
theorem xr17_0 : xRowOk (17, xmn 17 0, prog_20_method_19_code, 6, (some .int), xk17_0) = true := by decide +kernel
theorem xr17_1 : xRowOk (17, xmn 17 1, prog_20_method_8_code, 5, (some .boolean), xk17_1) = true := by decide +kernel
theorem xr17_2 : xRowOk (17, xmn 17 2, prog_20_method_35_code, 5, (some .int), xk17_2) = true := by decide +kernel
theorem xr17_3 : xRowOk (17, xmn 17 3, prog_20_method_15_code, 5, (some .boolean), xk17_3) = true := by decide +kernel
theorem xr17_4 : xRowOk (17, xmn 17 4, prog_20_method_3_code, 5, (some .int), xk17_4) = true := by decide +kernel
theorem xr17_5 : xRowOk (17, xmn 17 5, prog_20_method_22_code, 3, none, xk17_5) = true := by decide +kernel
theorem xr17_6 : xRowOk (17, xmn 17 6, prog_20_method_13_code, 6, (some .boolean), xk17_6) = true := by decide +kernel
theorem xr17_7 : xRowOk (17, xmn 17 7, prog_20_method_31_code, 2, (some .long), xk17_7) = true := by decide +kernel
theorem xr17_8 : xRowOk (17, xmn 17 8, prog_20_method_26_code, 1, (some .long), xk17_8) = true := by decide +kernel
theorem xr17_9 : xRowOk (17, xmn 17 9, prog_20_method_20_code, 6, none, xk17_9) = true := by decide +kernel
theorem xr17_10 : xRowOk (17, xmn 17 10, prog_20_method_21_code, 4, (some .boolean), xk17_10) = true := by decide +kernel
theorem xr17_11 : xRowOk (17, xmn 17 11, prog_20_method_1_code, 7, none, xk17_11) = true := by decide +kernel
theorem xr17_12 : xRowOk (17, xmn 17 12, prog_20_method_12_code, 1, (some .boolean), xk17_12) = true := by decide +kernel
theorem xr17_13 : xRowOk (17, xmn 17 13, prog_20_method_7_code, 2, (some .boolean), xk17_13) = true := by decide +kernel
theorem xr17_14 : xRowOk (17, xmn 17 14, prog_20_method_25_code, 2, (some .boolean), xk17_14) = true := by decide +kernel
theorem xr17_15 : xRowOk (17, xmn 17 15, prog_20_method_23_code, 9, none, xk17_15) = true := by decide +kernel
theorem xr17_16 : xRowOk (17, xmn 17 16, prog_20_method_4_code, 2, (some .int), xk17_16) = true := by decide +kernel
theorem xr17_17 : xRowOk (17, xmn 17 17, prog_20_method_24_code, 4, none, xk17_17) = true := by decide +kernel
theorem xr17_18 : xRowOk (17, xmn 17 18, prog_20_method_10_code, 3, none, xk17_18) = true := by decide +kernel
theorem xr17_19 : xRowOk (17, xmn 17 19, prog_20_method_6_code, 6, (some .int), xk17_19) = true := by decide +kernel
theorem xr17_20 : xRowOk (17, xmn 17 20, prog_20_method_9_code, 1, (some .int), xk17_20) = true := by decide +kernel
theorem xr17_21 : xRowOk (17, xmn 17 21, prog_20_method_17_code, 5, (some .int), xk17_21) = true := by decide +kernel
theorem xr17_22 : xRowOk (17, xmn 17 22, prog_20_method_34_code, 4, (some .int), xk17_22) = true := by decide +kernel
theorem xr17_23 : xRowOk (17, xmn 17 23, prog_20_method_27_code, 3, (some .int), xk17_23) = true := by decide +kernel
theorem xr17_24 : xRowOk (17, xmn 17 24, prog_20_method_18_code, 2, (some .int), xk17_24) = true := by decide +kernel
theorem xr17_25 : xRowOk (17, xmn 17 25, prog_20_method_30_code, 6, (some .int), xk17_25) = true := by decide +kernel
theorem xr17_26 : xRowOk (17, xmn 17 26, prog_20_method_11_code, 7, (some .boolean), xk17_26) = true := by decide +kernel
theorem xr17_27 : xRowOk (17, xmn 17 27, prog_20_method_32_code, 2, (some .int), xk17_27) = true := by decide +kernel
theorem xr17_28 : xRowOk (17, xmn 17 28, prog_20_method_5_code, 2, (some .int), xk17_28) = true := by decide +kernel
theorem xr17_29 : xRowOk (17, xmn 17 29, prog_20_method_29_code, 3, (some .int), xk17_29) = true := by decide +kernel
theorem xr17_30 : xRowOk (17, xmn 17 30, prog_20_method_16_code, 10, none, xk17_30) = true := by decide +kernel
theorem xr17_31 : xRowOk (17, xmn 17 31, prog_20_method_14_code, 11, (some .long), xk17_31) = true := by decide +kernel
theorem xr17_32 : xRowOk (17, xmn 17 32, prog_20_method_2_code, 1, (some .int), xk17_32) = true := by decide +kernel
theorem xr17_33 : xRowOk (17, xmn 17 33, prog_20_method_28_code, 5, none, xk17_33) = true := by decide +kernel
