/-! the code of class 15, in stretches -/
def xk15_0 : XB := []
def xk15_1 : XB := []
def xk15_2 : XB := []
def xk15_3 : XB := []
def xk15_4 : XB := []
def xk15_5 : XB := []
def xk15_6 : XB := []
def xk15_7 : XB := []
def xk15_8 : XB := []
def xk15_9 : XB := []
def xk15_10 : XB := []
def xk15_11 : XB := []
def xk15_12 : XB := []
def xk15_13 : XB := []
def xk15_14 : XB := []
def xk15_15 : XB := []
def xk15_16 : XB := []
def xk15_17 : XB := []
def xk15_18 : XB := []
def xk15_19 : XB := []
def xk15_20 : XB := []
def xk15_21 : XB := []
def xk15_22 : XB := []
def xk15_23 : XB := []
def xk15_24 : XB := []
def xk15_25 : XB := []
def xk15_26 : XB := []
def xk15_27 : XB := []
def xk15 : List XB := [xk15_0, xk15_1, xk15_2, xk15_3, xk15_4, xk15_5, xk15_6, xk15_7, xk15_8, xk15_9, xk15_10, xk15_11, xk15_12, xk15_13, xk15_14, xk15_15, xk15_16, xk15_17, xk15_18, xk15_19, xk15_20, xk15_21, xk15_22, xk15_23, xk15_24, xk15_25, xk15_26, xk15_27]
theorem xr15_0 : xRowOk (15, xmn 15 0, prog_18_method_9_code, 14, (some .int), xk15_0) = true := by decide +kernel
theorem xr15_1 : xRowOk (15, xmn 15 1, prog_18_method_27_code, 3, (some .int), xk15_1) = true := by decide +kernel
theorem xr15_2 : xRowOk (15, xmn 15 2, prog_18_method_31_code, 4, (some .int), xk15_2) = true := by decide +kernel
theorem xr15_3 : xRowOk (15, xmn 15 3, prog_18_method_26_code, 4, (some .boolean), xk15_3) = true := by decide +kernel
theorem xr15_4 : xRowOk (15, xmn 15 4, prog_18_method_17_code, 5, none, xk15_4) = true := by decide +kernel
theorem xr15_5 : xRowOk (15, xmn 15 5, prog_18_method_18_code, 3, (some .int), xk15_5) = true := by decide +kernel
theorem xr15_6 : xRowOk (15, xmn 15 6, prog_18_method_15_code, 8, (some .long), xk15_6) = true := by decide +kernel
theorem xr15_7 : xRowOk (15, xmn 15 7, prog_18_method_1_code, 3, none, xk15_7) = true := by decide +kernel
theorem xr15_8 : xRowOk (15, xmn 15 8, prog_18_method_3_code, 2, (some .boolean), xk15_8) = true := by decide +kernel
theorem xr15_9 : xRowOk (15, xmn 15 9, prog_18_method_6_code, 1, (some .boolean), xk15_9) = true := by decide +kernel
theorem xr15_10 : xRowOk (15, xmn 15 10, prog_18_method_4_code, 2, (some .boolean), xk15_10) = true := by decide +kernel
theorem xr15_11 : xRowOk (15, xmn 15 11, prog_18_method_5_code, 1, (some .boolean), xk15_11) = true := by decide +kernel
theorem xr15_12 : xRowOk (15, xmn 15 12, prog_18_method_7_code, 4, (some .boolean), xk15_12) = true := by decide +kernel
theorem xr15_13 : xRowOk (15, xmn 15 13, prog_18_method_23_code, 1, (some .boolean), xk15_13) = true := by decide +kernel
theorem xr15_14 : xRowOk (15, xmn 15 14, prog_18_method_8_code, 2, (some .boolean), xk15_14) = true := by decide +kernel
theorem xr15_15 : xRowOk (15, xmn 15 15, prog_18_method_30_code, 4, (some .int), xk15_15) = true := by decide +kernel
theorem xr15_16 : xRowOk (15, xmn 15 16, prog_18_method_20_code, 2, (some .int), xk15_16) = true := by decide +kernel
theorem xr15_17 : xRowOk (15, xmn 15 17, prog_18_method_22_code, 4, (some .int), xk15_17) = true := by decide +kernel
theorem xr15_18 : xRowOk (15, xmn 15 18, prog_18_method_25_code, 8, (some .boolean), xk15_18) = true := by decide +kernel
theorem xr15_19 : xRowOk (15, xmn 15 19, prog_18_method_28_code, 2, (some .int), xk15_19) = true := by decide +kernel
theorem xr15_20 : xRowOk (15, xmn 15 20, prog_18_method_12_code, 9, (some .int), xk15_20) = true := by decide +kernel
theorem xr15_21 : xRowOk (15, xmn 15 21, prog_18_method_21_code, 2, (some .int), xk15_21) = true := by decide +kernel
theorem xr15_22 : xRowOk (15, xmn 15 22, prog_18_method_13_code, 3, (some .boolean), xk15_22) = true := by decide +kernel
theorem xr15_23 : xRowOk (15, xmn 15 23, prog_18_method_10_code, 11, (some .int), xk15_23) = true := by decide +kernel
theorem xr15_24 : xRowOk (15, xmn 15 24, prog_18_method_32_code, 1, (some .int), xk15_24) = true := by decide +kernel
theorem xr15_25 : xRowOk (15, xmn 15 25, prog_18_method_2_code, 1, (some .int), xk15_25) = true := by decide +kernel
theorem xr15_26 : xRowOk (15, xmn 15 26, prog_18_method_16_code, 9, (some .boolean), xk15_26) = true := by decide +kernel
theorem xr15_27 : xRowOk (15, xmn 15 27, prog_18_method_11_code, 10, (some .int), xk15_27) = true := by decide +kernel
