/-! the code of class 16, in stretches -/
def xk16_0 : XB := []
def xk16_1 : XB := []
def xk16_2 : XB := []
def xk16_3 : XB := []
def xk16_4 : XB := []
def xk16_5 : XB := []
def xk16_6 : XB := []
def xk16_7 : XB := []
def xk16_8 : XB := []
def xk16_9 : XB := [(0, [(0, .aload_n 0, 0, 0, 0), (1, .invokespecial 1, 999, 0, 0), (4, .aload_n 0, 0, 0, 0), (5, .iconst 2, 0, 0, 0), (6, .newarray .int, 100, 0, 0), (8, .putfield 7, 16, 10, 0), (11, .aload_n 0, 0, 0, 0), (12, .bipush 20, 0, 0, 0), (14, .newarray .long, 101, 0, 0), (16, .putfield 13, 16, 18, 0), (19, .aload_n 0, 0, 0, 0), (20, .bipush 20, 0, 0, 0), (22, .newarray .boolean, 103, 0, 0), (24, .putfield 17, 16, 26, 0), (27, .aload_n 0, 0, 0, 0), (28, .iconst 2, 0, 0, 0), (29, .newarray .int, 100, 0, 0), (31, .putfield 21, 16, 34, 0), (34, .aload_n 0, 0, 0, 0), (35, .bipush 120, 0, 0, 0), (37, .newarray .int, 100, 0, 0), (39, .putfield 24, 16, 42, 0), (42, .aload_n 0, 0, 0, 0), (43, .bipush 120, 0, 0, 0), (45, .newarray .long, 101, 0, 0), (47, .putfield 27, 16, 50, 0), (50, .aload_n 0, 0, 0, 0), (51, .bipush 120, 0, 0, 0), (53, .newarray .long, 101, 0, 0), (55, .putfield 30, 16, 58, 0), (58, .aload_n 0, 0, 0, 0), (59, .bipush 120, 0, 0, 0), (61, .newarray .long, 101, 0, 0), (63, .putfield 33, 16, 66, 0), (66, .aload_n 0, 0, 0, 0), (67, .bipush 120, 0, 0, 0), (69, .newarray .long, 101, 0, 0), (71, .putfield 36, 16, 74, 0), (74, .aload_n 0, 0, 0, 0), (75, .bipush 120, 0, 0, 0), (77, .newarray .int, 100, 0, 0), (79, .putfield 39, 16, 82, 0), (82, .aload_n 0, 0, 0, 0), (83, .bipush 120, 0, 0, 0), (85, .newarray .int, 100, 0, 0), (87, .putfield 42, 16, 90, 0), (90, .aload_n 0, 0, 0, 0), (91, .bipush 120, 0, 0, 0), (93, .newarray .boolean, 103, 0, 0), (95, .putfield 45, 16, 98, 0), (98, .aload_n 0, 0, 0, 0), (99, .bipush 60, 0, 0, 0), (101, .newarray .int, 100, 0, 0), (103, .putfield 48, 16, 114, 0), (106, .aload_n 0, 0, 0, 0), (107, .bipush 60, 0, 0, 0), (109, .newarray .int, 100, 0, 0), (111, .putfield 51, 16, 122, 0), (114, .aload_n 0, 0, 0, 0), (115, .sipush 2048, 0, 0, 0), (118, .newarray .long, 101, 0, 0), (120, .putfield 54, 16, 130, 0), (123, .aload_n 0, 0, 0, 0), (124, .sipush 3000, 0, 0, 0), (127, .newarray .int, 100, 0, 0), (129, .putfield 57, 16, 146, 0), (132, .aload_n 0, 0, 0, 0), (133, .sipush 2000, 0, 0, 0), (136, .newarray .int, 100, 0, 0), (138, .putfield 60, 16, 162, 0), (141, .aload_n 0, 0, 0, 0), (142, .bipush 8, 0, 0, 0), (144, .newarray .int, 100, 0, 0), (146, .putfield 63, 16, 210, 0), (149, .aload_n 0, 0, 0, 0), (150, .bipush 8, 0, 0, 0), (152, .newarray .int, 100, 0, 0), (154, .putfield 66, 16, 218, 0), (157, .aload_n 0, 0, 0, 0), (158, .sipush 2400, 0, 0, 0), (161, .newarray .int, 100, 0, 0), (163, .putfield 69, 16, 226, 0), (166, .aload_n 0, 0, 0, 0), (167, .sipush 2600, 0, 0, 0), (170, .newarray .int, 100, 0, 0), (172, .putfield 72, 16, 242, 0), (175, .return_, 0, 0, 0)], 176)]
def xk16_10 : XB := []
def xk16_11 : XB := []
def xk16_12 : XB := []
def xk16_13 : XB := []
def xk16_14 : XB := []
def xk16_15 : XB := []
def xk16_16 : XB := []
def xk16_17 : XB := []
def xk16_18 : XB := []
def xk16_19 : XB := []
def xk16_20 : XB := []
def xk16_21 : XB := []
def xk16_22 : XB := []
def xk16_23 : XB := []
def xk16_24 : XB := []
def xk16_25 : XB := []
def xk16_26 : XB := []
def xk16_27 : XB := []
def xk16_28 : XB := []
def xk16_29 : XB := []
def xk16_30 : XB := []
def xk16_31 : XB := []
def xk16_32 : XB := []
def xk16_33 : XB := []
def xk16 : List XB := [xk16_0, xk16_1, xk16_2, xk16_3, xk16_4, xk16_5, xk16_6, xk16_7, xk16_8, xk16_9, xk16_10, xk16_11, xk16_12, xk16_13, xk16_14, xk16_15, xk16_16, xk16_17, xk16_18, xk16_19, xk16_20, xk16_21, xk16_22, xk16_23, xk16_24, xk16_25, xk16_26, xk16_27, xk16_28, xk16_29, xk16_30, xk16_31, xk16_32, xk16_33]
theorem xr16_0 : xRowOk (16, xmn 16 0, prog_19_method_10_code, 15, (some .int), xk16_0) = true := by decide +kernel
theorem xr16_1 : xRowOk (16, xmn 16 1, prog_19_method_8_code, 5, (some .int), xk16_1) = true := by decide +kernel
theorem xr16_2 : xRowOk (16, xmn 16 2, prog_19_method_13_code, 3, (some .long), xk16_2) = true := by decide +kernel
theorem xr16_3 : xRowOk (16, xmn 16 3, prog_19_method_3_code, 1, none, xk16_3) = true := by decide +kernel
theorem xr16_4 : xRowOk (16, xmn 16 4, prog_19_method_17_code, 3, none, xk16_4) = true := by decide +kernel
theorem xr16_5 : xRowOk (16, xmn 16 5, prog_19_method_37_code, 1, (some .boolean), xk16_5) = true := by decide +kernel
theorem xr16_6 : xRowOk (16, xmn 16 6, prog_19_method_33_code, 2, none, xk16_6) = true := by decide +kernel
theorem xr16_7 : xRowOk (16, xmn 16 7, prog_19_method_20_code, 2, none, xk16_7) = true := by decide +kernel
theorem xr16_8 : xRowOk (16, xmn 16 8, prog_19_method_11_code, 8, (some .int), xk16_8) = true := by decide +kernel
theorem xr16_9 : xRowOk (16, xmn 16 9, prog_19_method_1_code, 1, none, xk16_9) = true := by decide +kernel
theorem xr16_10 : xRowOk (16, xmn 16 10, prog_19_method_7_code, 2, (some .boolean), xk16_10) = true := by decide +kernel
theorem xr16_11 : xRowOk (16, xmn 16 11, prog_19_method_34_code, 1, (some .boolean), xk16_11) = true := by decide +kernel
theorem xr16_12 : xRowOk (16, xmn 16 12, prog_19_method_5_code, 2, (some .boolean), xk16_12) = true := by decide +kernel
theorem xr16_13 : xRowOk (16, xmn 16 13, prog_19_method_4_code, 4, (some .boolean), xk16_13) = true := by decide +kernel
theorem xr16_14 : xRowOk (16, xmn 16 14, prog_19_method_6_code, 2, (some .boolean), xk16_14) = true := by decide +kernel
theorem xr16_15 : xRowOk (16, xmn 16 15, prog_19_method_38_code, 2, none, xk16_15) = true := by decide +kernel
theorem xr16_16 : xRowOk (16, xmn 16 16, prog_19_method_32_code, 1, (some .int), xk16_16) = true := by decide +kernel
theorem xr16_17 : xRowOk (16, xmn 16 17, prog_19_method_35_code, 4, (some .long), xk16_17) = true := by decide +kernel
theorem xr16_18 : xRowOk (16, xmn 16 18, prog_19_method_21_code, 3, (some .int), xk16_18) = true := by decide +kernel
theorem xr16_19 : xRowOk (16, xmn 16 19, prog_19_method_18_code, 11, none, xk16_19) = true := by decide +kernel
theorem xr16_20 : xRowOk (16, xmn 16 20, prog_19_method_19_code, 5, none, xk16_20) = true := by decide +kernel
theorem xr16_21 : xRowOk (16, xmn 16 21, prog_19_method_45_code, 2, (some .int), xk16_21) = true := by decide +kernel
theorem xr16_22 : xRowOk (16, xmn 16 22, prog_19_method_41_code, 2, none, xk16_22) = true := by decide +kernel
theorem xr16_23 : xRowOk (16, xmn 16 23, prog_19_method_42_code, 10, none, xk16_23) = true := by decide +kernel
theorem xr16_24 : xRowOk (16, xmn 16 24, prog_19_method_39_code, 5, none, xk16_24) = true := by decide +kernel
theorem xr16_25 : xRowOk (16, xmn 16 25, prog_19_method_44_code, 1, none, xk16_25) = true := by decide +kernel
theorem xr16_26 : xRowOk (16, xmn 16 26, prog_19_method_43_code, 4, none, xk16_26) = true := by decide +kernel
theorem xr16_27 : xRowOk (16, xmn 16 27, prog_19_method_40_code, 6, none, xk16_27) = true := by decide +kernel
theorem xr16_28 : xRowOk (16, xmn 16 28, prog_19_method_14_code, 2, (some .long), xk16_28) = true := by decide +kernel
theorem xr16_29 : xRowOk (16, xmn 16 29, prog_19_method_9_code, 4, (some .int), xk16_29) = true := by decide +kernel
theorem xr16_30 : xRowOk (16, xmn 16 30, prog_19_method_31_code, 2, (some .boolean), xk16_30) = true := by decide +kernel
theorem xr16_31 : xRowOk (16, xmn 16 31, prog_19_method_16_code, 3, (some .long), xk16_31) = true := by decide +kernel
theorem xr16_32 : xRowOk (16, xmn 16 32, prog_19_method_15_code, 12, (some .long), xk16_32) = true := by decide +kernel
theorem xr16_33 : xRowOk (16, xmn 16 33, prog_19_method_36_code, 4, (some .long), xk16_33) = true := by decide +kernel
