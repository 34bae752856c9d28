/-! the code of class 1, in stretches -/
def xk1_0 : XB := []
def xk1_1 : XB := []
def xk1_2 : XB := []
def xk1_3 : XB := []
def xk1_4 : XB := []
def xk1_5 : XB := []
def xk1_6 : XB := []
def xk1_7 : XB := []
def xk1_8 : XB := []
def xk1_9 : XB := []
def xk1_10 : XB := []
def xk1_11 : XB := []
def xk1_12 : XB := []
def xk1_13 : XB := []
def xk1_14 : XB := []
def xk1_15 : XB := []
def xk1_16 : XB := []
def xk1_17 : XB := []
def xk1_18 : XB := []
def xk1_19 : XB := []
def xk1_20 : XB := []
def xk1_21 : XB := []
def xk1_22 : XB := []
def xk1_23 : XB := []
def xk1_24 : XB := []
def xk1_25 : XB := []
def xk1_26 : XB := []
def xk1_27 : XB := [(0, [(0, .aload_n 0, 0, 0, 0), (1, .invokespecial 5, 999, 0, 0), (4, .aload_n 0, 0, 0, 0), (5, .iconst (-1), 0, 0, 0), (6, .putfield 11, 1, 0, 0), (9, .aload_n 0, 0, 0, 0), (10, .new 15, 7, 3, 0), (13, .dup, 0, 0, 0), (14, .bipush 60, 0, 0, 0), (16, .invokespecial 17, 7, 193, 0), (19, .putfield 20, 1, 10, 0), (22, .aload_n 0, 0, 0, 0), (23, .bipush 60, 0, 0, 0), (25, .newarray .int, 100, 0, 0), (27, .putfield 24, 1, 42, 0), (30, .aload_n 0, 0, 0, 0), (31, .bipush 60, 0, 0, 0), (33, .newarray .int, 100, 0, 0), (35, .putfield 28, 1, 58, 0), (38, .aload_n 0, 0, 0, 0), (39, .new 15, 7, 3, 0), (42, .dup, 0, 0, 0), (43, .bipush 40, 0, 0, 0), (45, .invokespecial 17, 7, 193, 0), (48, .putfield 33, 1, 66, 0), (51, .aload_n 0, 0, 0, 0), (52, .sipush 1950, 0, 0, 0), (55, .newarray .int, 100, 0, 0), (57, .putfield 36, 1, 82, 0), (60, .aload_n 0, 0, 0, 0), (61, .bipush 60, 0, 0, 0), (63, .newarray .int, 100, 0, 0), (65, .putfield 39, 1, 98, 0), (68, .aload_n 0, 0, 0, 0), (69, .bipush 60, 0, 0, 0), (71, .newarray .int, 100, 0, 0), (73, .putfield 42, 1, 114, 0), (76, .aload_n 0, 0, 0, 0), (77, .sipush 2048, 0, 0, 0), (80, .newarray .int, 100, 0, 0), (82, .putfield 45, 1, 122, 0), (85, .aload_n 0, 0, 0, 0), (86, .sipush 800, 0, 0, 0), (89, .newarray .char, 104, 0, 0), (91, .putfield 48, 1, 130, 0), (94, .return_, 0, 0, 0)], 95)]
def xk1_28 : XB := []
def xk1_29 : XB := []
def xk1_30 : XB := []
def xk1_31 : XB := []
def xk1_32 : XB := []
def xk1_33 : XB := []
def xk1_34 : XB := []
def xk1_35 : XB := []
def xk1_36 : XB := []
def xk1_37 : XB := []
def xk1_38 : XB := []
def xk1_39 : XB := []
def xk1_40 : XB := []
def xk1_41 : XB := []
def xk1_42 : XB := []
def xk1_43 : XB := []
def xk1_44 : XB := []
def xk1_45 : XB := []
def xk1_46 : XB := []
def xk1_47 : XB := []
def xk1_48 : XB := []
def xk1_49 : XB := []
def xk1_50 : XB := []
def xk1_51 : XB := []
def xk1_52 : XB := []
def xk1_53 : XB := []
def xk1_54 : XB := []
def xk1_55 : XB := []
def xk1_56 : XB := []
def xk1_57 : XB := []
def xk1_58 : XB := []
def xk1 : List XB := [xk1_0, xk1_1, xk1_2, xk1_3, xk1_4, xk1_5, xk1_6, xk1_7, xk1_8, xk1_9, xk1_10, xk1_11, xk1_12, xk1_13, xk1_14, xk1_15, xk1_16, xk1_17, xk1_18, xk1_19, xk1_20, xk1_21, xk1_22, xk1_23, xk1_24, xk1_25, xk1_26, xk1_27, xk1_28, xk1_29, xk1_30, xk1_31, xk1_32, xk1_33, xk1_34, xk1_35, xk1_36, xk1_37, xk1_38, xk1_39, xk1_40, xk1_41, xk1_42, xk1_43, xk1_44, xk1_45, xk1_46, xk1_47, xk1_48, xk1_49, xk1_50, xk1_51, xk1_52, xk1_53, xk1_54, xk1_55, xk1_56, xk1_57, xk1_58]
theorem xr1_0 : xRowOk (1, xmn 1 0, prog_3_method_38_code, 6, none, xk1_0) = true := by decide +kernel
theorem xr1_1 : xRowOk (1, xmn 1 1, prog_3_method_7_code, 7, none, xk1_1) = true := by decide +kernel
theorem xr1_2 : xRowOk (1, xmn 1 2, prog_3_method_5_code, 7, none, xk1_2) = true := by decide +kernel
theorem xr1_3 : xRowOk (1, xmn 1 3, prog_3_method_6_code, 12, none, xk1_3) = true := by decide +kernel
theorem xr1_4 : xRowOk (1, xmn 1 4, prog_3_method_4_code, 6, none, xk1_4) = true := by decide +kernel
theorem xr1_5 : xRowOk (1, xmn 1 5, prog_3_method_26_code, 4, (some .int), xk1_5) = true := by decide +kernel
theorem xr1_6 : xRowOk (1, xmn 1 6, prog_3_method_27_code, 6, (some .int), xk1_6) = true := by decide +kernel
theorem xr1_7 : xRowOk (1, xmn 1 7, prog_3_method_9_code, 2, (some .int), xk1_7) = true := by decide +kernel
theorem xr1_8 : xRowOk (1, xmn 1 8, prog_3_method_22_code, 2, (some .int), xk1_8) = true := by decide +kernel
theorem xr1_9 : xRowOk (1, xmn 1 9, prog_3_method_49_code, 4, (some .int), xk1_9) = true := by decide +kernel
theorem xr1_10 : xRowOk (1, xmn 1 10, prog_3_method_28_code, 5, none, xk1_10) = true := by decide +kernel
theorem xr1_11 : xRowOk (1, xmn 1 11, prog_3_method_55_code, 3, (some .int), xk1_11) = true := by decide +kernel
theorem xr1_12 : xRowOk (1, xmn 1 12, prog_3_method_14_code, 5, (some .int), xk1_12) = true := by decide +kernel
theorem xr1_13 : xRowOk (1, xmn 1 13, prog_3_method_54_code, 4, none, xk1_13) = true := by decide +kernel
theorem xr1_14 : xRowOk (1, xmn 1 14, prog_3_method_53_code, 3, none, xk1_14) = true := by decide +kernel
theorem xr1_15 : xRowOk (1, xmn 1 15, prog_3_method_37_code, 14, (some .boolean), xk1_15) = true := by decide +kernel
theorem xr1_16 : xRowOk (1, xmn 1 16, prog_3_method_39_code, 5, (some .int), xk1_16) = true := by decide +kernel
theorem xr1_17 : xRowOk (1, xmn 1 17, prog_3_method_23_code, 6, none, xk1_17) = true := by decide +kernel
theorem xr1_18 : xRowOk (1, xmn 1 18, prog_3_method_30_code, 4, none, xk1_18) = true := by decide +kernel
theorem xr1_19 : xRowOk (1, xmn 1 19, prog_3_method_31_code, 7, none, xk1_19) = true := by decide +kernel
theorem xr1_20 : xRowOk (1, xmn 1 20, prog_3_method_32_code, 7, none, xk1_20) = true := by decide +kernel
theorem xr1_21 : xRowOk (1, xmn 1 21, prog_3_method_17_code, 3, none, xk1_21) = true := by decide +kernel
theorem xr1_22 : xRowOk (1, xmn 1 22, prog_3_method_15_code, 5, (some .long), xk1_22) = true := by decide +kernel
theorem xr1_23 : xRowOk (1, xmn 1 23, prog_3_method_36_code, 8, (some .boolean), xk1_23) = true := by decide +kernel
theorem xr1_24 : xRowOk (1, xmn 1 24, prog_3_method_8_code, 6, (some .boolean), xk1_24) = true := by decide +kernel
theorem xr1_25 : xRowOk (1, xmn 1 25, prog_3_method_50_code, 2, (some .int), xk1_25) = true := by decide +kernel
theorem xr1_26 : xRowOk (1, xmn 1 26, prog_3_method_51_code, 2, (some .int), xk1_26) = true := by decide +kernel
theorem xr1_27 : xRowOk (1, xmn 1 27, prog_3_method_1_code, 1, none, xk1_27) = true := by decide +kernel
theorem xr1_28 : xRowOk (1, xmn 1 28, prog_3_method_12_code, 2, (some .boolean), xk1_28) = true := by decide +kernel
theorem xr1_29 : xRowOk (1, xmn 1 29, prog_3_method_59_code, 1, (some .boolean), xk1_29) = true := by decide +kernel
theorem xr1_30 : xRowOk (1, xmn 1 30, prog_3_method_29_code, 1, (some .boolean), xk1_30) = true := by decide +kernel
theorem xr1_31 : xRowOk (1, xmn 1 31, prog_3_method_35_code, 2, (some .boolean), xk1_31) = true := by decide +kernel
theorem xr1_32 : xRowOk (1, xmn 1 32, prog_3_method_48_code, 3, (some .boolean), xk1_32) = true := by decide +kernel
theorem xr1_33 : xRowOk (1, xmn 1 33, prog_3_method_33_code, 6, (some .boolean), xk1_33) = true := by decide +kernel
theorem xr1_34 : xRowOk (1, xmn 1 34, prog_3_method_18_code, 6, none, xk1_34) = true := by decide +kernel
theorem xr1_35 : xRowOk (1, xmn 1 35, prog_3_method_24_code, 4, none, xk1_35) = true := by decide +kernel
theorem xr1_36 : xRowOk (1, xmn 1 36, prog_3_method_11_code, 2, (some .int), xk1_36) = true := by decide +kernel
theorem xr1_37 : xRowOk (1, xmn 1 37, prog_3_method_2_code, 5, none, xk1_37) = true := by decide +kernel
theorem xr1_38 : xRowOk (1, xmn 1 38, prog_3_method_25_code, 8, (some .int), xk1_38) = true := by decide +kernel
theorem xr1_39 : xRowOk (1, xmn 1 39, prog_3_method_10_code, 2, (some .int), xk1_39) = true := by decide +kernel
theorem xr1_40 : xRowOk (1, xmn 1 40, prog_3_method_46_code, 6, (some .int), xk1_40) = true := by decide +kernel
theorem xr1_41 : xRowOk (1, xmn 1 41, prog_3_method_19_code, 3, none, xk1_41) = true := by decide +kernel
theorem xr1_42 : xRowOk (1, xmn 1 42, prog_3_method_44_code, 5, none, xk1_42) = true := by decide +kernel
theorem xr1_43 : xRowOk (1, xmn 1 43, prog_3_method_40_code, 2, none, xk1_43) = true := by decide +kernel
theorem xr1_44 : xRowOk (1, xmn 1 44, prog_3_method_47_code, 8, none, xk1_44) = true := by decide +kernel
theorem xr1_45 : xRowOk (1, xmn 1 45, prog_3_method_3_code, 2, (some .int), xk1_45) = true := by decide +kernel
theorem xr1_46 : xRowOk (1, xmn 1 46, prog_3_method_13_code, 3, (some .int), xk1_46) = true := by decide +kernel
theorem xr1_47 : xRowOk (1, xmn 1 47, prog_3_method_56_code, 4, (some .int), xk1_47) = true := by decide +kernel
theorem xr1_48 : xRowOk (1, xmn 1 48, prog_3_method_16_code, 8, (some .long), xk1_48) = true := by decide +kernel
theorem xr1_49 : xRowOk (1, xmn 1 49, prog_3_method_58_code, 3, (some .int), xk1_49) = true := by decide +kernel
theorem xr1_50 : xRowOk (1, xmn 1 50, prog_3_method_57_code, 4, (some .boolean), xk1_50) = true := by decide +kernel
theorem xr1_51 : xRowOk (1, xmn 1 51, prog_3_method_21_code, 2, (some .int), xk1_51) = true := by decide +kernel
theorem xr1_52 : xRowOk (1, xmn 1 52, prog_3_method_20_code, 9, (some .boolean), xk1_52) = true := by decide +kernel
theorem xr1_53 : xRowOk (1, xmn 1 53, prog_3_method_45_code, 4, (some .int), xk1_53) = true := by decide +kernel
theorem xr1_54 : xRowOk (1, xmn 1 54, prog_3_method_34_code, 8, (some .int), xk1_54) = true := by decide +kernel
theorem xr1_55 : xRowOk (1, xmn 1 55, prog_3_method_43_code, 5, (some .int), xk1_55) = true := by decide +kernel
theorem xr1_56 : xRowOk (1, xmn 1 56, prog_3_method_52_code, 3, none, xk1_56) = true := by decide +kernel
theorem xr1_57 : xRowOk (1, xmn 1 57, prog_3_method_41_code, 1, (some .int), xk1_57) = true := by decide +kernel
theorem xr1_58 : xRowOk (1, xmn 1 58, prog_3_method_42_code, 1, (some .int), xk1_58) = true := by decide +kernel
