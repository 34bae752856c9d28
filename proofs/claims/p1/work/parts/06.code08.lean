/-! the code of class 8, in stretches -/
def xk8_0 : XB := []
def xk8_1 : XB := []
def xk8_2 : XB := []
def xk8_3 : XB := [(0, [(0, .aload_n 0, 0, 0, 0), (1, .iload_n 2, 0, 0, 0), (2, .sipush 400, 0, 0, 0), (5, .invokestatic 22, 999, 12, 0), (8, .aload_n 1, 0, 0, 0), (9, .arraylength, 0, 0, 0), (10, .invokestatic 22, 999, 12, 0), (13, .putfield 28, 8, 8, 0), (16, .iconst 0, 0, 0, 0), (17, .istore_n 3, 0, 0, 0)], 18),
  (18, [(18, .iload_n 3, 0, 0, 0), (19, .aload_n 0, 0, 0, 0), (20, .getfield 28, 8, 8, 0), (23, .if_icmp .ge 18, 0, 0, 0), (26, .aload_n 0, 0, 0, 0), (27, .getfield 11, 8, 2, 0), (30, .iload_n 3, 0, 0, 0), (31, .aload_n 1, 0, 0, 0), (32, .iload_n 3, 0, 0, 0), (33, .caload, 0, 0, 0), (34, .castore, 0, 0, 0), (35, .iinc 3 1, 0, 0, 0), (38, .goto (-20), 0, 0, 0)], 41),
  (41, [(41, .aload_n 0, 0, 0, 0), (42, .iconst 0, 0, 0, 0), (43, .putfield 32, 8, 16, 0), (46, .aload_n 0, 0, 0, 0), (47, .iconst (-1), 0, 0, 0), (48, .putfield 35, 8, 24, 0), (51, .aload_n 0, 0, 0, 0), (52, .iconst 0, 0, 0, 0), (53, .putfield 38, 8, 32, 0), (56, .iconst 0, 0, 0, 0), (57, .istore_n 3, 0, 0, 0)], 58),
  (58, [(58, .iload_n 3, 0, 0, 0), (59, .bipush 26, 0, 0, 0), (61, .if_icmp .ge 16, 0, 0, 0), (64, .aload_n 0, 0, 0, 0), (65, .getfield 19, 8, 50, 0), (68, .iload_n 3, 0, 0, 0), (69, .iconst (-1), 0, 0, 0), (70, .iastore, 0, 0, 0), (71, .iinc 3 1, 0, 0, 0), (74, .goto (-16), 0, 0, 0)], 77),
  (77, [(77, .aload_n 0, 0, 0, 0), (78, .iconst 0, 0, 0, 0), (79, .iconst (-1), 0, 0, 0), (80, .invokevirtual 41, 8, 1282, 0), (83, .aload_n 0, 0, 0, 0), (84, .getfield 35, 8, 24, 0), (87, .ireturn, 0, 0, 0)], 88)]
def xk8_4 : XB := []
def xk8_5 : XB := [(0, [(0, .aload_n 0, 0, 0, 0), (1, .invokespecial 3, 999, 0, 0), (4, .aload_n 0, 0, 0, 0), (5, .sipush 400, 0, 0, 0), (8, .newarray .char, 104, 0, 0), (10, .putfield 11, 8, 2, 0), (13, .aload_n 0, 0, 0, 0), (14, .sipush 400, 0, 0, 0), (17, .newarray .int, 100, 0, 0), (19, .putfield 15, 8, 42, 0), (22, .aload_n 0, 0, 0, 0), (23, .bipush 26, 0, 0, 0), (25, .newarray .int, 100, 0, 0), (27, .putfield 19, 8, 50, 0), (30, .return_, 0, 0, 0)], 31)]
def xk8_6 : XB := []
def xk8_7 : XB := []
def xk8_8 : XB := []
def xk8_9 : XB := []
def xk8_10 : XB := [(0, [(0, .iload_n 1, 0, 0, 0), (1, .ifCond .lt 20, 0, 0, 0), (4, .iload_n 1, 0, 0, 0), (5, .aload_n 0, 0, 0, 0), (6, .getfield 28, 8, 8, 0), (9, .if_icmp .ge 12, 0, 0, 0), (12, .aload_n 0, 0, 0, 0), (13, .getfield 11, 8, 2, 0), (16, .iload_n 1, 0, 0, 0), (17, .caload, 0, 0, 0), (18, .goto 4, 0, 0, 0)], 21),
  (21, [(21, .iconst (-1), 0, 0, 0)], 22),
  (22, [(22, .ireturn, 0, 0, 0)], 23)]
def xk8_11 : XB := []
def xk8_12 : XB := []
def xk8_13 : XB := []
def xk8_14 : XB := []
def xk8_15 : XB := []
def xk8_16 : XB := []
def xk8_17 : XB := []
def xk8_18 : XB := []
def xk8_19 : XB := []
def xk8_20 : XB := [(0, [(0, .iconst 0, 0, 0, 0), (1, .istore_n 3, 0, 0, 0)], 2),
  (2, [(2, .iload_n 3, 0, 0, 0), (3, .sipush 400, 0, 0, 0), (6, .if_icmp .gt 60, 0, 0, 0), (9, .aload_n 0, 0, 0, 0), (10, .getfield 35, 8, 24, 0), (13, .iconst (-1), 0, 0, 0), (14, .if_icmp .ne 52, 0, 0, 0), (17, .aload_n 0, 0, 0, 0), (18, .aload_n 0, 0, 0, 0), (19, .getfield 32, 8, 16, 0), (22, .invokevirtual 49, 8, 641, 0), (25, .iload_n 2, 0, 0, 0), (26, .if_icmp .eq 40, 0, 0, 0), (29, .aload_n 0, 0, 0, 0), (30, .aload_n 0, 0, 0, 0), (31, .getfield 32, 8, 16, 0), (34, .invokevirtual 49, 8, 641, 0), (37, .bipush 10, 0, 0, 0), (39, .if_icmp .ne 16, 0, 0, 0), (42, .aload_n 0, 0, 0, 0), (43, .dup, 0, 0, 0), (44, .getfield 32, 8, 16, 0), (47, .iconst 1, 0, 0, 0), (48, .iadd, 0, 0, 0), (49, .putfield 32, 8, 16, 0), (52, .goto 8, 0, 0, 0)], 55),
  (55, [(55, .aload_n 0, 0, 0, 0), (56, .iload_n 1, 0, 0, 0), (57, .invokevirtual 57, 8, 1217, 0)], 60),
  (60, [(60, .iinc 3 1, 0, 0, 0), (63, .goto (-61), 0, 0, 0)], 66),
  (66, [(66, .return_, 0, 0, 0)], 67)]
def xk8_21 : XB := []
def xk8_22 : XB := []
def xk8 : List XB := [xk8_0, xk8_1, xk8_2, xk8_3, xk8_4, xk8_5, xk8_6, xk8_7, xk8_8, xk8_9, xk8_10, xk8_11, xk8_12, xk8_13, xk8_14, xk8_15, xk8_16, xk8_17, xk8_18, xk8_19, xk8_20, xk8_21, xk8_22]
theorem xr8_0 : xRowOk (8, xmn 8 0, prog_10_method_6_code, 3, (some .int), xk8_0) = true := by decide +kernel
theorem xr8_1 : xRowOk (8, xmn 8 1, prog_10_method_4_code, 2, (some .int), xk8_1) = true := by decide +kernel
theorem xr8_2 : xRowOk (8, xmn 8 2, prog_10_method_10_code, 2, none, xk8_2) = true := by decide +kernel
theorem xr8_3 : xRowOk (8, xmn 8 3, prog_10_method_2_code, 4, (some .int), xk8_3) = true := by decide +kernel
theorem xr8_4 : xRowOk (8, xmn 8 4, prog_10_method_5_code, 2, (some .int), xk8_4) = true := by decide +kernel
theorem xr8_5 : xRowOk (8, xmn 8 5, prog_10_method_1_code, 1, none, xk8_5) = true := by decide +kernel
theorem xr8_6 : xRowOk (8, xmn 8 6, prog_10_method_9_code, 1, (some .boolean), xk8_6) = true := by decide +kernel
theorem xr8_7 : xRowOk (8, xmn 8 7, prog_10_method_8_code, 1, (some .boolean), xk8_7) = true := by decide +kernel
theorem xr8_8 : xRowOk (8, xmn 8 8, prog_10_method_11_code, 2, (some .boolean), xk8_8) = true := by decide +kernel
theorem xr8_9 : xRowOk (8, xmn 8 9, prog_10_method_7_code, 1, (some .boolean), xk8_9) = true := by decide +kernel
theorem xr8_10 : xRowOk (8, xmn 8 10, prog_10_method_3_code, 2, (some .int), xk8_10) = true := by decide +kernel
theorem xr8_11 : xRowOk (8, xmn 8 11, prog_10_method_21_code, 4, none, xk8_11) = true := by decide +kernel
theorem xr8_12 : xRowOk (8, xmn 8 12, prog_10_method_17_code, 5, none, xk8_12) = true := by decide +kernel
theorem xr8_13 : xRowOk (8, xmn 8 13, prog_10_method_15_code, 4, none, xk8_13) = true := by decide +kernel
theorem xr8_14 : xRowOk (8, xmn 8 14, prog_10_method_22_code, 3, none, xk8_14) = true := by decide +kernel
theorem xr8_15 : xRowOk (8, xmn 8 15, prog_10_method_18_code, 2, none, xk8_15) = true := by decide +kernel
theorem xr8_16 : xRowOk (8, xmn 8 16, prog_10_method_23_code, 2, none, xk8_16) = true := by decide +kernel
theorem xr8_17 : xRowOk (8, xmn 8 17, prog_10_method_16_code, 4, none, xk8_17) = true := by decide +kernel
theorem xr8_18 : xRowOk (8, xmn 8 18, prog_10_method_20_code, 3, none, xk8_18) = true := by decide +kernel
theorem xr8_19 : xRowOk (8, xmn 8 19, prog_10_method_14_code, 3, none, xk8_19) = true := by decide +kernel
theorem xr8_20 : xRowOk (8, xmn 8 20, prog_10_method_13_code, 4, none, xk8_20) = true := by decide +kernel
theorem xr8_21 : xRowOk (8, xmn 8 21, prog_10_method_19_code, 3, none, xk8_21) = true := by decide +kernel
theorem xr8_22 : xRowOk (8, xmn 8 22, prog_10_method_12_code, 2, none, xk8_22) = true := by decide +kernel
