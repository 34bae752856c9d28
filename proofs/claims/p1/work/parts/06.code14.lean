/-! the code of class 14, in stretches -/
def xk14_0 : XB := []
def xk14_1 : XB := []
def xk14_2 : XB := []
def xk14_3 : XB := []
def xk14_4 : XB := []
def xk14_5 : XB := []
def xk14_6 : XB := []
def xk14_7 : XB := []
def xk14_8 : XB := []
def xk14_9 : XB := []
def xk14_10 : XB := []
def xk14_11 : XB := []
def xk14_12 : XB := []
def xk14_13 : XB := []
def xk14_14 : XB := []
def xk14_15 : XB := []
def xk14_16 : XB := []
def xk14_17 : XB := []
def xk14_18 : XB := []
def xk14_19 : XB := []
def xk14_20 : XB := []
def xk14_21 : XB := []
def xk14_22 : XB := []
def xk14_23 : XB := []
def xk14_24 : XB := []
def xk14_25 : XB := []
def xk14_26 : XB := []
def xk14_27 : XB := []
def xk14_28 : XB := []
def xk14_29 : XB := []
def xk14_30 : XB := []
def xk14_31 : XB := []
def xk14_32 : XB := []
def xk14_33 : XB := []
def xk14_34 : XB := []
def xk14_35 : XB := []
def xk14 : List XB := [xk14_0, xk14_1, xk14_2, xk14_3, xk14_4, xk14_5, xk14_6, xk14_7, xk14_8, xk14_9, xk14_10, xk14_11, xk14_12, xk14_13, xk14_14, xk14_15, xk14_16, xk14_17, xk14_18, xk14_19, xk14_20, xk14_21, xk14_22, xk14_23, xk14_24, xk14_25, xk14_26, xk14_27, xk14_28, xk14_29, xk14_30, xk14_31, xk14_32, xk14_33, xk14_34, xk14_35]
theorem xr14_0 : xRowOk (14, xmn 14 0, prog_17_method_30_code, 5, (some .boolean), xk14_0) = true := by decide +kernel
theorem xr14_1 : xRowOk (14, xmn 14 1, prog_17_method_7_code, 4, (some .boolean), xk14_1) = true := by decide +kernel
theorem xr14_2 : xRowOk (14, xmn 14 2, prog_17_method_10_code, 3, (some .boolean), xk14_2) = true := by decide +kernel
theorem xr14_3 : xRowOk (14, xmn 14 3, prog_17_method_14_code, 12, (some .int), xk14_3) = true := by decide +kernel
theorem xr14_4 : xRowOk (14, xmn 14 4, prog_17_method_6_code, 7, (some .boolean), xk14_4) = true := by decide +kernel
theorem xr14_5 : xRowOk (14, xmn 14 5, prog_17_method_18_code, 3, (some .int), xk14_5) = true := by decide +kernel
theorem xr14_6 : xRowOk (14, xmn 14 6, prog_17_method_34_code, 5, none, xk14_6) = true := by decide +kernel
theorem xr14_7 : xRowOk (14, xmn 14 7, prog_17_method_15_code, 28, (some .int), xk14_7) = true := by decide +kernel
theorem xr14_8 : xRowOk (14, xmn 14 8, prog_17_method_25_code, 3, (some .boolean), xk14_8) = true := by decide +kernel
theorem xr14_9 : xRowOk (14, xmn 14 9, prog_17_method_1_code, 2, none, xk14_9) = true := by decide +kernel
theorem xr14_10 : xRowOk (14, xmn 14 10, prog_17_method_29_code, 5, (some .boolean), xk14_10) = true := by decide +kernel
theorem xr14_11 : xRowOk (14, xmn 14 11, prog_17_method_21_code, 8, (some .boolean), xk14_11) = true := by decide +kernel
theorem xr14_12 : xRowOk (14, xmn 14 12, prog_17_method_32_code, 8, (some .boolean), xk14_12) = true := by decide +kernel
theorem xr14_13 : xRowOk (14, xmn 14 13, prog_17_method_9_code, 1, (some .boolean), xk14_13) = true := by decide +kernel
theorem xr14_14 : xRowOk (14, xmn 14 14, prog_17_method_24_code, 2, (some .boolean), xk14_14) = true := by decide +kernel
theorem xr14_15 : xRowOk (14, xmn 14 15, prog_17_method_26_code, 4, (some .boolean), xk14_15) = true := by decide +kernel
theorem xr14_16 : xRowOk (14, xmn 14 16, prog_17_method_28_code, 5, (some .boolean), xk14_16) = true := by decide +kernel
theorem xr14_17 : xRowOk (14, xmn 14 17, prog_17_method_22_code, 2, (some .boolean), xk14_17) = true := by decide +kernel
theorem xr14_18 : xRowOk (14, xmn 14 18, prog_17_method_4_code, 4, (some .boolean), xk14_18) = true := by decide +kernel
theorem xr14_19 : xRowOk (14, xmn 14 19, prog_17_method_27_code, 9, (some .boolean), xk14_19) = true := by decide +kernel
theorem xr14_20 : xRowOk (14, xmn 14 20, prog_17_method_3_code, 2, (some .boolean), xk14_20) = true := by decide +kernel
theorem xr14_21 : xRowOk (14, xmn 14 21, prog_17_method_37_code, 2, (some .boolean), xk14_21) = true := by decide +kernel
theorem xr14_22 : xRowOk (14, xmn 14 22, prog_17_method_35_code, 5, (some .boolean), xk14_22) = true := by decide +kernel
theorem xr14_23 : xRowOk (14, xmn 14 23, prog_17_method_20_code, 11, (some .boolean), xk14_23) = true := by decide +kernel
theorem xr14_24 : xRowOk (14, xmn 14 24, prog_17_method_13_code, 4, (some .long), xk14_24) = true := by decide +kernel
theorem xr14_25 : xRowOk (14, xmn 14 25, prog_17_method_17_code, 2, (some .int), xk14_25) = true := by decide +kernel
theorem xr14_26 : xRowOk (14, xmn 14 26, prog_17_method_19_code, 13, (some .int), xk14_26) = true := by decide +kernel
theorem xr14_27 : xRowOk (14, xmn 14 27, prog_17_method_33_code, 6, none, xk14_27) = true := by decide +kernel
theorem xr14_28 : xRowOk (14, xmn 14 28, prog_17_method_31_code, 4, (some .long), xk14_28) = true := by decide +kernel
theorem xr14_29 : xRowOk (14, xmn 14 29, prog_17_method_8_code, 7, (some .int), xk14_29) = true := by decide +kernel
theorem xr14_30 : xRowOk (14, xmn 14 30, prog_17_method_23_code, 7, (some .int), xk14_30) = true := by decide +kernel
theorem xr14_31 : xRowOk (14, xmn 14 31, prog_17_method_36_code, 7, (some .int), xk14_31) = true := by decide +kernel
theorem xr14_32 : xRowOk (14, xmn 14 32, prog_17_method_5_code, 5, (some .int), xk14_32) = true := by decide +kernel
theorem xr14_33 : xRowOk (14, xmn 14 33, prog_17_method_16_code, 14, (some .int), xk14_33) = true := by decide +kernel
theorem xr14_34 : xRowOk (14, xmn 14 34, prog_17_method_12_code, 16, (some .long), xk14_34) = true := by decide +kernel
theorem xr14_35 : xRowOk (14, xmn 14 35, prog_17_method_38_code, 3, (some .int), xk14_35) = true := by decide +kernel
