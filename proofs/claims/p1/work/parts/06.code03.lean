/-! the code of class 3, in stretches -/
def xk3_0 : XB := []
def xk3_1 : XB := []
def xk3_2 : XB := []
def xk3_3 : XB := []
def xk3_4 : XB := []
def xk3_5 : XB := []
def xk3_6 : XB := []
def xk3_7 : XB := []
def xk3_8 : XB := []
def xk3_9 : XB := []
def xk3_10 : XB := []
def xk3_11 : XB := []
def xk3_12 : XB := [(0, [(0, .aload_n 0, 0, 0, 0), (1, .invokespecial 5, 999, 0, 0), (4, .aload_n 0, 0, 0, 0), (5, .sipush 200, 0, 0, 0), (8, .newarray .int, 100, 0, 0), (10, .putfield 13, 3, 10, 0), (13, .aload_n 0, 0, 0, 0), (14, .new 17, 7, 3, 0), (17, .dup, 0, 0, 0), (18, .bipush 16, 0, 0, 0), (20, .invokespecial 19, 7, 193, 0), (23, .putfield 22, 3, 18, 0), (26, .aload_n 0, 0, 0, 0), (27, .sipush 256, 0, 0, 0), (30, .newarray .int, 100, 0, 0), (32, .putfield 26, 3, 26, 0), (35, .aload_n 0, 0, 0, 0), (36, .new 17, 7, 3, 0), (39, .dup, 0, 0, 0), (40, .bipush 100, 0, 0, 0), (42, .invokespecial 19, 7, 193, 0), (45, .putfield 29, 3, 34, 0), (48, .aload_n 0, 0, 0, 0), (49, .new 17, 7, 3, 0), (52, .dup, 0, 0, 0), (53, .bipush 50, 0, 0, 0), (55, .invokespecial 19, 7, 193, 0), (58, .putfield 32, 3, 42, 0), (61, .aload_n 0, 0, 0, 0), (62, .new 17, 7, 3, 0), (65, .dup, 0, 0, 0), (66, .bipush 60, 0, 0, 0), (68, .invokespecial 19, 7, 193, 0), (71, .putfield 35, 3, 50, 0), (74, .aload_n 0, 0, 0, 0), (75, .new 17, 7, 3, 0), (78, .dup, 0, 0, 0), (79, .bipush 30, 0, 0, 0), (81, .invokespecial 19, 7, 193, 0), (84, .putfield 38, 3, 58, 0), (87, .aload_n 0, 0, 0, 0), (88, .new 17, 7, 3, 0), (91, .dup, 0, 0, 0), (92, .bipush 60, 0, 0, 0), (94, .invokespecial 19, 7, 193, 0), (97, .putfield 41, 3, 66, 0), (100, .aload_n 0, 0, 0, 0), (101, .sipush 19520, 0, 0, 0), (104, .newarray .int, 100, 0, 0), (106, .putfield 44, 3, 74, 0), (109, .aload_n 0, 0, 0, 0), (110, .sipush 960, 0, 0, 0), (113, .newarray .int, 100, 0, 0), (115, .putfield 47, 3, 82, 0), (118, .aload_n 0, 0, 0, 0), (119, .sipush 960, 0, 0, 0), (122, .newarray .int, 100, 0, 0), (124, .putfield 50, 3, 90, 0), (127, .aload_n 0, 0, 0, 0), (128, .sipush 1020, 0, 0, 0), (131, .newarray .int, 100, 0, 0), (133, .putfield 53, 3, 98, 0), (136, .aload_n 0, 0, 0, 0), (137, .aload_n 1, 0, 0, 0), (138, .putfield 56, 3, 2, 0), (141, .return_, 0, 0, 0)], 142)]
def xk3_13 : XB := []
def xk3_14 : XB := []
def xk3_15 : XB := []
def xk3_16 : XB := []
def xk3_17 : XB := []
def xk3_18 : XB := []
def xk3_19 : XB := []
def xk3_20 : XB := []
def xk3_21 : XB := []
def xk3_22 : XB := []
def xk3_23 : XB := []
def xk3_24 : XB := []
def xk3_25 : XB := []
def xk3_26 : XB := []
def xk3_27 : XB := []
def xk3_28 : XB := []
def xk3_29 : XB := []
def xk3_30 : XB := [(0, [(0, .iload_n 1, 0, 0, 0), (1, .ifCond .lt 20, 0, 0, 0), (4, .iload_n 1, 0, 0, 0), (5, .aload_n 0, 0, 0, 0), (6, .getfield 72, 3, 112, 0), (9, .if_icmp .ge 12, 0, 0, 0), (12, .aload_n 0, 0, 0, 0), (13, .getfield 50, 3, 90, 0), (16, .iload_n 1, 0, 0, 0), (17, .iaload, 0, 0, 0), (18, .goto 6, 0, 0, 0)], 21),
  (21, [(21, .sipush (-1000), 0, 0, 0)], 24),
  (24, [(24, .ireturn, 0, 0, 0)], 25)]
def xk3_31 : XB := [(0, [(0, .iload_n 1, 0, 0, 0), (1, .ifCond .lt 18, 0, 0, 0), (4, .iload_n 1, 0, 0, 0), (5, .aload_n 0, 0, 0, 0), (6, .getfield 41, 3, 66, 0), (9, .getfield 60, 7, 16, 0), (12, .if_icmp .ge 7, 0, 0, 0), (15, .iconst 1, 0, 0, 0), (16, .goto 4, 0, 0, 0)], 19),
  (19, [(19, .iconst 0, 0, 0, 0)], 20),
  (20, [(20, .istore_n 3, 0, 0, 0), (21, .iload_n 3, 0, 0, 0), (22, .ifCond .eq 38, 0, 0, 0), (25, .iload_n 2, 0, 0, 0), (26, .ifCond .lt 34, 0, 0, 0), (29, .iload_n 2, 0, 0, 0), (30, .aload_n 0, 0, 0, 0), (31, .aload_n 0, 0, 0, 0), (32, .getfield 41, 3, 66, 0), (35, .iload_n 1, 0, 0, 0), (36, .iconst 0, 0, 0, 0), (37, .invokevirtual 64, 7, 66, 0), (40, .invokevirtual 68, 3, 321, 0), (43, .if_icmp .ge 17, 0, 0, 0), (46, .aload_n 0, 0, 0, 0), (47, .getfield 47, 3, 82, 0), (50, .iload_n 1, 0, 0, 0), (51, .bipush 16, 0, 0, 0), (53, .imul, 0, 0, 0), (54, .iload_n 2, 0, 0, 0), (55, .iadd, 0, 0, 0), (56, .iaload, 0, 0, 0), (57, .goto 4, 0, 0, 0)], 60),
  (60, [(60, .iconst (-1), 0, 0, 0)], 61),
  (61, [(61, .ireturn, 0, 0, 0)], 62)]
def xk3_32 : XB := []
def xk3_33 : XB := []
def xk3_34 : XB := [(0, [(0, .iload_n 1, 0, 0, 0), (1, .ifCond .lt 20, 0, 0, 0), (4, .iload_n 1, 0, 0, 0), (5, .aload_n 0, 0, 0, 0), (6, .getfield 75, 3, 104, 0), (9, .if_icmp .ge 12, 0, 0, 0), (12, .aload_n 0, 0, 0, 0), (13, .getfield 53, 3, 98, 0), (16, .iload_n 1, 0, 0, 0), (17, .iaload, 0, 0, 0), (18, .goto 4, 0, 0, 0)], 21),
  (21, [(21, .iconst (-1), 0, 0, 0)], 22),
  (22, [(22, .ireturn, 0, 0, 0)], 23)]
def xk3_35 : XB := []
def xk3_36 : XB := []
def xk3_37 : XB := []
def xk3_38 : XB := []
def xk3 : List XB := [xk3_0, xk3_1, xk3_2, xk3_3, xk3_4, xk3_5, xk3_6, xk3_7, xk3_8, xk3_9, xk3_10, xk3_11, xk3_12, xk3_13, xk3_14, xk3_15, xk3_16, xk3_17, xk3_18, xk3_19, xk3_20, xk3_21, xk3_22, xk3_23, xk3_24, xk3_25, xk3_26, xk3_27, xk3_28, xk3_29, xk3_30, xk3_31, xk3_32, xk3_33, xk3_34, xk3_35, xk3_36, xk3_37, xk3_38]
theorem xr3_0 : xRowOk (3, xmn 3 0, prog_5_method_15_code, 8, none, xk3_0) = true := by decide +kernel
theorem xr3_1 : xRowOk (3, xmn 3 1, prog_5_method_18_code, 10, none, xk3_1) = true := by decide +kernel
theorem xr3_2 : xRowOk (3, xmn 3 2, prog_5_method_17_code, 5, none, xk3_2) = true := by decide +kernel
theorem xr3_3 : xRowOk (3, xmn 3 3, prog_5_method_14_code, 7, none, xk3_3) = true := by decide +kernel
theorem xr3_4 : xRowOk (3, xmn 3 4, prog_5_method_37_code, 5, none, xk3_4) = true := by decide +kernel
theorem xr3_5 : xRowOk (3, xmn 3 5, prog_5_method_8_code, 2, (some .int), xk3_5) = true := by decide +kernel
theorem xr3_6 : xRowOk (3, xmn 3 6, prog_5_method_5_code, 2, none, xk3_6) = true := by decide +kernel
theorem xr3_7 : xRowOk (3, xmn 3 7, prog_5_method_23_code, 5, (some .boolean), xk3_7) = true := by decide +kernel
theorem xr3_8 : xRowOk (3, xmn 3 8, prog_5_method_6_code, 3, none, xk3_8) = true := by decide +kernel
theorem xr3_9 : xRowOk (3, xmn 3 9, prog_5_method_13_code, 4, none, xk3_9) = true := by decide +kernel
theorem xr3_10 : xRowOk (3, xmn 3 10, prog_5_method_26_code, 13, (some .boolean), xk3_10) = true := by decide +kernel
theorem xr3_11 : xRowOk (3, xmn 3 11, prog_5_method_19_code, 6, (some .boolean), xk3_11) = true := by decide +kernel
theorem xr3_12 : xRowOk (3, xmn 3 12, prog_5_method_1_code, 2, none, xk3_12) = true := by decide +kernel
theorem xr3_13 : xRowOk (3, xmn 3 13, prog_5_method_20_code, 5, (some .boolean), xk3_13) = true := by decide +kernel
theorem xr3_14 : xRowOk (3, xmn 3 14, prog_5_method_12_code, 2, (some .boolean), xk3_14) = true := by decide +kernel
theorem xr3_15 : xRowOk (3, xmn 3 15, prog_5_method_39_code, 7, (some .boolean), xk3_15) = true := by decide +kernel
theorem xr3_16 : xRowOk (3, xmn 3 16, prog_5_method_34_code, 5, none, xk3_16) = true := by decide +kernel
theorem xr3_17 : xRowOk (3, xmn 3 17, prog_5_method_21_code, 2, none, xk3_17) = true := by decide +kernel
theorem xr3_18 : xRowOk (3, xmn 3 18, prog_5_method_25_code, 4, none, xk3_18) = true := by decide +kernel
theorem xr3_19 : xRowOk (3, xmn 3 19, prog_5_method_33_code, 5, none, xk3_19) = true := by decide +kernel
theorem xr3_20 : xRowOk (3, xmn 3 20, prog_5_method_29_code, 4, none, xk3_20) = true := by decide +kernel
theorem xr3_21 : xRowOk (3, xmn 3 21, prog_5_method_30_code, 5, none, xk3_21) = true := by decide +kernel
theorem xr3_22 : xRowOk (3, xmn 3 22, prog_5_method_28_code, 7, none, xk3_22) = true := by decide +kernel
theorem xr3_23 : xRowOk (3, xmn 3 23, prog_5_method_27_code, 5, none, xk3_23) = true := by decide +kernel
theorem xr3_24 : xRowOk (3, xmn 3 24, prog_5_method_24_code, 3, none, xk3_24) = true := by decide +kernel
theorem xr3_25 : xRowOk (3, xmn 3 25, prog_5_method_22_code, 4, none, xk3_25) = true := by decide +kernel
theorem xr3_26 : xRowOk (3, xmn 3 26, prog_5_method_31_code, 2, (some .int), xk3_26) = true := by decide +kernel
theorem xr3_27 : xRowOk (3, xmn 3 27, prog_5_method_10_code, 5, none, xk3_27) = true := by decide +kernel
theorem xr3_28 : xRowOk (3, xmn 3 28, prog_5_method_16_code, 7, (some .int), xk3_28) = true := by decide +kernel
theorem xr3_29 : xRowOk (3, xmn 3 29, prog_5_method_32_code, 2, (some .int), xk3_29) = true := by decide +kernel
theorem xr3_30 : xRowOk (3, xmn 3 30, prog_5_method_3_code, 2, (some .int), xk3_30) = true := by decide +kernel
theorem xr3_31 : xRowOk (3, xmn 3 31, prog_5_method_2_code, 4, (some .int), xk3_31) = true := by decide +kernel
theorem xr3_32 : xRowOk (3, xmn 3 32, prog_5_method_36_code, 5, none, xk3_32) = true := by decide +kernel
theorem xr3_33 : xRowOk (3, xmn 3 33, prog_5_method_11_code, 6, (some .int), xk3_33) = true := by decide +kernel
theorem xr3_34 : xRowOk (3, xmn 3 34, prog_5_method_4_code, 2, (some .int), xk3_34) = true := by decide +kernel
theorem xr3_35 : xRowOk (3, xmn 3 35, prog_5_method_35_code, 4, (some .int), xk3_35) = true := by decide +kernel
theorem xr3_36 : xRowOk (3, xmn 3 36, prog_5_method_7_code, 2, (some .int), xk3_36) = true := by decide +kernel
theorem xr3_37 : xRowOk (3, xmn 3 37, prog_5_method_9_code, 3, (some .int), xk3_37) = true := by decide +kernel
theorem xr3_38 : xRowOk (3, xmn 3 38, prog_5_method_38_code, 6, none, xk3_38) = true := by decide +kernel
