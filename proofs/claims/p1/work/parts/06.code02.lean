/-! the code of class 2, in stretches -/
def xk2_0 : XB := []
def xk2_1 : XB := []
def xk2_2 : XB := [(0, [(0, .aload_n 0, 0, 0, 0), (1, .iload_n 1, 0, 0, 0), (2, .putfield 76, 2, 8, 0), (5, .aload_n 0, 0, 0, 0), (6, .iconst 0, 0, 0, 0), (7, .putfield 80, 2, 0, 0), (10, .aload_n 0, 0, 0, 0), (11, .iconst 0, 0, 0, 0), (12, .putfield 83, 2, 16, 0), (15, .aload_n 0, 0, 0, 0), (16, .iconst 0, 0, 0, 0), (17, .putfield 86, 2, 80, 0), (20, .return_, 0, 0, 0)], 21)]
def xk2_3 : XB := []
def xk2_4 : XB := []
def xk2_5 : XB := []
def xk2_6 : XB := []
def xk2_7 : XB := []
def xk2_8 : XB := []
def xk2_9 : XB := []
def xk2_10 : XB := []
def xk2_11 : XB := []
def xk2_12 : XB := []
def xk2_13 : XB := [(0, [(0, .aload_n 0, 0, 0, 0), (1, .invokespecial 3, 999, 0, 0), (4, .aload_n 0, 0, 0, 0), (5, .sipush 200, 0, 0, 0), (8, .newarray .int, 100, 0, 0), (10, .putfield 11, 2, 26, 0), (13, .aload_n 0, 0, 0, 0), (14, .sipush 200, 0, 0, 0), (17, .newarray .int, 100, 0, 0), (19, .putfield 15, 2, 34, 0), (22, .aload_n 0, 0, 0, 0), (23, .sipush 200, 0, 0, 0), (26, .newarray .int, 100, 0, 0), (28, .putfield 18, 2, 42, 0), (31, .aload_n 0, 0, 0, 0), (32, .sipush 1000, 0, 0, 0), (35, .newarray .long, 101, 0, 0), (37, .putfield 21, 2, 50, 0), (40, .aload_n 0, 0, 0, 0), (41, .sipush 400, 0, 0, 0), (44, .newarray .int, 100, 0, 0), (46, .putfield 25, 2, 58, 0), (49, .aload_n 0, 0, 0, 0), (50, .sipush 400, 0, 0, 0), (53, .newarray .int, 100, 0, 0), (55, .putfield 28, 2, 66, 0), (58, .aload_n 0, 0, 0, 0), (59, .sipush 4000, 0, 0, 0), (62, .newarray .char, 104, 0, 0), (64, .putfield 31, 2, 74, 0), (67, .aload_n 0, 0, 0, 0), (68, .sipush 26000, 0, 0, 0), (71, .newarray .char, 104, 0, 0), (73, .putfield 35, 2, 90, 0), (76, .return_, 0, 0, 0)], 77)]
def xk2_14 : XB := [(0, [(0, .iload_n 1, 0, 0, 0), (1, .ifCond .lt 15, 0, 0, 0), (4, .iload_n 1, 0, 0, 0), (5, .aload_n 0, 0, 0, 0), (6, .getfield 80, 2, 0, 0), (9, .if_icmp .ge 7, 0, 0, 0), (12, .iconst 1, 0, 0, 0), (13, .goto 4, 0, 0, 0)], 16),
  (16, [(16, .iconst 0, 0, 0, 0)], 17),
  (17, [(17, .ireturn, 0, 0, 0)], 18)]
def xk2_15 : XB := []
def xk2_16 : XB := [(0, [(0, .aload_n 0, 0, 0, 0), (1, .iload_n 1, 0, 0, 0), (2, .invokevirtual 95, 2, 897, 0), (5, .ifCond .eq 12, 0, 0, 0), (8, .aload_n 0, 0, 0, 0), (9, .getfield 11, 2, 26, 0), (12, .iload_n 1, 0, 0, 0), (13, .iaload, 0, 0, 0), (14, .goto 4, 0, 0, 0)], 17),
  (17, [(17, .iconst (-1), 0, 0, 0)], 18),
  (18, [(18, .ireturn, 0, 0, 0)], 19)]
def xk2_17 : XB := []
def xk2_18 : XB := [(0, [(0, .iload_n 2, 0, 0, 0), (1, .ifCond .lt 29, 0, 0, 0), (4, .iload_n 2, 0, 0, 0), (5, .iconst 5, 0, 0, 0), (6, .if_icmp .ge 24, 0, 0, 0), (9, .aload_n 0, 0, 0, 0), (10, .iload_n 1, 0, 0, 0), (11, .invokevirtual 95, 2, 897, 0), (14, .ifCond .eq 16, 0, 0, 0), (17, .aload_n 0, 0, 0, 0), (18, .getfield 21, 2, 50, 0), (21, .iload_n 1, 0, 0, 0), (22, .iconst 5, 0, 0, 0), (23, .imul, 0, 0, 0), (24, .iload_n 2, 0, 0, 0), (25, .iadd, 0, 0, 0), (26, .laload, 0, 0, 0), (27, .goto 4, 0, 0, 0)], 30),
  (30, [(30, .lconst 0, 0, 0, 0)], 31),
  (31, [(31, .lreturn, 0, 0, 0)], 32)]
def xk2_19 : XB := [(0, [(0, .iload_n 1, 0, 0, 0), (1, .ifCond .lt 20, 0, 0, 0), (4, .iload_n 1, 0, 0, 0), (5, .aload_n 0, 0, 0, 0), (6, .getfield 129, 2, 96, 0), (9, .if_icmp .ge 12, 0, 0, 0), (12, .aload_n 0, 0, 0, 0), (13, .getfield 35, 2, 90, 0), (16, .iload_n 1, 0, 0, 0), (17, .caload, 0, 0, 0), (18, .goto 4, 0, 0, 0)], 21),
  (21, [(21, .iconst (-1), 0, 0, 0)], 22),
  (22, [(22, .ireturn, 0, 0, 0)], 23)]
def xk2_20 : XB := []
def xk2_21 : XB := []
def xk2_22 : XB := []
def xk2_23 : XB := []
def xk2_24 : XB := []
def xk2_25 : XB := []
def xk2_26 : XB := []
def xk2_27 : XB := []
def xk2_28 : XB := []
def xk2_29 : XB := []
def xk2_30 : XB := []
def xk2_31 : XB := []
def xk2 : List XB := [xk2_0, xk2_1, xk2_2, xk2_3, xk2_4, xk2_5, xk2_6, xk2_7, xk2_8, xk2_9, xk2_10, xk2_11, xk2_12, xk2_13, xk2_14, xk2_15, xk2_16, xk2_17, xk2_18, xk2_19, xk2_20, xk2_21, xk2_22, xk2_23, xk2_24, xk2_25, xk2_26, xk2_27, xk2_28, xk2_29, xk2_30, xk2_31]
theorem xr2_0 : xRowOk (2, xmn 2 0, prog_4_method_5_code, 5, (some .int), xk2_0) = true := by decide +kernel
theorem xr2_1 : xRowOk (2, xmn 2 1, prog_4_method_9_code, 4, none, xk2_1) = true := by decide +kernel
theorem xr2_2 : xRowOk (2, xmn 2 2, prog_4_method_4_code, 2, none, xk2_2) = true := by decide +kernel
theorem xr2_3 : xRowOk (2, xmn 2 3, prog_4_method_32_code, 2, none, xk2_3) = true := by decide +kernel
theorem xr2_4 : xRowOk (2, xmn 2 4, prog_4_method_27_code, 7, none, xk2_4) = true := by decide +kernel
theorem xr2_5 : xRowOk (2, xmn 2 5, prog_4_method_25_code, 6, none, xk2_5) = true := by decide +kernel
theorem xr2_6 : xRowOk (2, xmn 2 6, prog_4_method_24_code, 7, none, xk2_6) = true := by decide +kernel
theorem xr2_7 : xRowOk (2, xmn 2 7, prog_4_method_28_code, 5, none, xk2_7) = true := by decide +kernel
theorem xr2_8 : xRowOk (2, xmn 2 8, prog_4_method_29_code, 4, none, xk2_8) = true := by decide +kernel
theorem xr2_9 : xRowOk (2, xmn 2 9, prog_4_method_31_code, 4, none, xk2_9) = true := by decide +kernel
theorem xr2_10 : xRowOk (2, xmn 2 10, prog_4_method_26_code, 6, none, xk2_10) = true := by decide +kernel
theorem xr2_11 : xRowOk (2, xmn 2 11, prog_4_method_30_code, 3, none, xk2_11) = true := by decide +kernel
theorem xr2_12 : xRowOk (2, xmn 2 12, prog_4_method_2_code, 1, (some (.object "java/lang/String")), xk2_12) = true := by decide +kernel
theorem xr2_13 : xRowOk (2, xmn 2 13, prog_4_method_1_code, 1, none, xk2_13) = true := by decide +kernel
theorem xr2_14 : xRowOk (2, xmn 2 14, prog_4_method_6_code, 2, (some .boolean), xk2_14) = true := by decide +kernel
theorem xr2_15 : xRowOk (2, xmn 2 15, prog_4_method_10_code, 6, none, xk2_15) = true := by decide +kernel
theorem xr2_16 : xRowOk (2, xmn 2 16, prog_4_method_11_code, 2, (some .int), xk2_16) = true := by decide +kernel
theorem xr2_17 : xRowOk (2, xmn 2 17, prog_4_method_16_code, 4, (some .char), xk2_17) = true := by decide +kernel
theorem xr2_18 : xRowOk (2, xmn 2 18, prog_4_method_13_code, 3, (some .long), xk2_18) = true := by decide +kernel
theorem xr2_19 : xRowOk (2, xmn 2 19, prog_4_method_20_code, 2, (some .int), xk2_19) = true := by decide +kernel
theorem xr2_20 : xRowOk (2, xmn 2 20, prog_4_method_12_code, 2, (some .int), xk2_20) = true := by decide +kernel
theorem xr2_21 : xRowOk (2, xmn 2 21, prog_4_method_14_code, 3, (some .int), xk2_21) = true := by decide +kernel
theorem xr2_22 : xRowOk (2, xmn 2 22, prog_4_method_19_code, 7, (some .boolean), xk2_22) = true := by decide +kernel
theorem xr2_23 : xRowOk (2, xmn 2 23, prog_4_method_7_code, 5, none, xk2_23) = true := by decide +kernel
theorem xr2_24 : xRowOk (2, xmn 2 24, prog_4_method_8_code, 3, none, xk2_24) = true := by decide +kernel
theorem xr2_25 : xRowOk (2, xmn 2 25, prog_4_method_18_code, 6, (some .boolean), xk2_25) = true := by decide +kernel
theorem xr2_26 : xRowOk (2, xmn 2 26, prog_4_method_15_code, 3, (some .int), xk2_26) = true := by decide +kernel
theorem xr2_27 : xRowOk (2, xmn 2 27, prog_4_method_17_code, 4, (some .int), xk2_27) = true := by decide +kernel
theorem xr2_28 : xRowOk (2, xmn 2 28, prog_4_method_3_code, 1, (some (.object "java/lang/String")), xk2_28) = true := by decide +kernel
theorem xr2_29 : xRowOk (2, xmn 2 29, prog_4_method_23_code, 2, none, xk2_29) = true := by decide +kernel
theorem xr2_30 : xRowOk (2, xmn 2 30, prog_4_method_22_code, 3, none, xk2_30) = true := by decide +kernel
theorem xr2_31 : xRowOk (2, xmn 2 31, prog_4_method_21_code, 1, none, xk2_31) = true := by decide +kernel
