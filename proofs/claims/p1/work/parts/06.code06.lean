/-! the code of class 6, in stretches -/
def xk6_0 : XB := []
def xk6_1 : XB := []
def xk6_2 : XB := []
def xk6_3 : XB := []
def xk6_4 : XB := []
def xk6_5 : XB := []
def xk6_6 : XB := [(0, [(0, .aload_n 0, 0, 0, 0), (1, .invokespecial 7, 999, 0, 0), (4, .aload_n 0, 0, 0, 0), (5, .sipush 1024, 0, 0, 0), (8, .newarray .int, 100, 0, 0), (10, .putfield 13, 6, 10, 0), (13, .aload_n 0, 0, 0, 0), (14, .sipush 1024, 0, 0, 0), (17, .newarray .int, 100, 0, 0), (19, .putfield 17, 6, 18, 0), (22, .aload_n 0, 0, 0, 0), (23, .sipush 1024, 0, 0, 0), (26, .newarray .boolean, 103, 0, 0), (28, .putfield 20, 6, 26, 0), (31, .aload_n 0, 0, 0, 0), (32, .sipush 7168, 0, 0, 0), (35, .newarray .long, 101, 0, 0), (37, .putfield 24, 6, 34, 0), (40, .aload_n 0, 0, 0, 0), (41, .bipush 12, 0, 0, 0), (43, .newarray .int, 100, 0, 0), (45, .putfield 28, 6, 50, 0), (48, .aload_n 0, 0, 0, 0), (49, .aload_n 1, 0, 0, 0), (50, .putfield 31, 6, 2, 0), (53, .return_, 0, 0, 0)], 54)]
def xk6_7 : XB := []
def xk6_8 : XB := []
def xk6_9 : XB := []
def xk6_10 : XB := []
def xk6_11 : XB := []
def xk6_12 : XB := []
def xk6_13 : XB := []
def xk6_14 : XB := []
def xk6_15 : XB := []
def xk6_16 : XB := []
def xk6_17 : XB := []
def xk6_18 : XB := []
def xk6 : List XB := [xk6_0, xk6_1, xk6_2, xk6_3, xk6_4, xk6_5, xk6_6, xk6_7, xk6_8, xk6_9, xk6_10, xk6_11, xk6_12, xk6_13, xk6_14, xk6_15, xk6_16, xk6_17, xk6_18]
theorem xr6_0 : xRowOk (6, xmn 6 0, prog_8_method_18_code, 4, (some .int), xk6_0) = true := by decide +kernel
theorem xr6_1 : xRowOk (6, xmn 6 1, prog_8_method_16_code, 7, (some .int), xk6_1) = true := by decide +kernel
theorem xr6_2 : xRowOk (6, xmn 6 2, prog_8_method_3_code, 1, (some .long), xk6_2) = true := by decide +kernel
theorem xr6_3 : xRowOk (6, xmn 6 3, prog_8_method_7_code, 3, (some .int), xk6_3) = true := by decide +kernel
theorem xr6_4 : xRowOk (6, xmn 6 4, prog_8_method_2_code, 5, none, xk6_4) = true := by decide +kernel
theorem xr6_5 : xRowOk (6, xmn 6 5, prog_8_method_6_code, 3, none, xk6_5) = true := by decide +kernel
theorem xr6_6 : xRowOk (6, xmn 6 6, prog_8_method_1_code, 2, none, xk6_6) = true := by decide +kernel
theorem xr6_7 : xRowOk (6, xmn 6 7, prog_8_method_8_code, 3, (some .boolean), xk6_7) = true := by decide +kernel
theorem xr6_8 : xRowOk (6, xmn 6 8, prog_8_method_5_code, 4, (some .int), xk6_8) = true := by decide +kernel
theorem xr6_9 : xRowOk (6, xmn 6 9, prog_8_method_17_code, 6, none, xk6_9) = true := by decide +kernel
theorem xr6_10 : xRowOk (6, xmn 6 10, prog_8_method_4_code, 7, none, xk6_10) = true := by decide +kernel
theorem xr6_11 : xRowOk (6, xmn 6 11, prog_8_method_11_code, 4, (some .int), xk6_11) = true := by decide +kernel
theorem xr6_12 : xRowOk (6, xmn 6 12, prog_8_method_14_code, 6, none, xk6_12) = true := by decide +kernel
theorem xr6_13 : xRowOk (6, xmn 6 13, prog_8_method_19_code, 6, none, xk6_13) = true := by decide +kernel
theorem xr6_14 : xRowOk (6, xmn 6 14, prog_8_method_10_code, 10, (some .int), xk6_14) = true := by decide +kernel
theorem xr6_15 : xRowOk (6, xmn 6 15, prog_8_method_13_code, 4, none, xk6_15) = true := by decide +kernel
theorem xr6_16 : xRowOk (6, xmn 6 16, prog_8_method_15_code, 7, (some .long), xk6_16) = true := by decide +kernel
theorem xr6_17 : xRowOk (6, xmn 6 17, prog_8_method_12_code, 5, (some .int), xk6_17) = true := by decide +kernel
theorem xr6_18 : xRowOk (6, xmn 6 18, prog_8_method_9_code, 4, (some .boolean), xk6_18) = true := by decide +kernel
