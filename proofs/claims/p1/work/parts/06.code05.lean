/-! the code of class 5, in stretches -/
def xk5_0 : XB := []
def xk5_1 : XB := []
def xk5_2 : XB := []
def xk5_3 : XB := []
def xk5_4 : XB := [(0, [(0, .aload_n 0, 0, 0, 0), (1, .iload_n 1, 0, 0, 0), (2, .iload_n 2, 0, 0, 0), (3, .invokevirtual 114, 5, 642, 0), (6, .ifCond .ne 5, 0, 0, 0), (9, .iconst (-1), 0, 0, 0), (10, .ireturn, 0, 0, 0)], 11),
  (11, [(11, .aload_n 0, 0, 0, 0), (12, .iconst 0, 0, 0, 0), (13, .putfield 108, 5, 104, 0), (16, .aload_n 0, 0, 0, 0), (17, .iload_n 1, 0, 0, 0), (18, .invokevirtual 111, 5, 769, 0), (21, .aload_n 0, 0, 0, 0), (22, .iload_n 2, 0, 0, 0), (23, .sipush 256, 0, 0, 0), (26, .idiv, 0, 0, 0), (27, .invokevirtual 111, 5, 769, 0), (30, .aload_n 0, 0, 0, 0), (31, .iload_n 2, 0, 0, 0), (32, .sipush 256, 0, 0, 0), (35, .irem, 0, 0, 0), (36, .invokevirtual 111, 5, 769, 0), (39, .aload_n 0, 0, 0, 0), (40, .aload_n 0, 0, 0, 0), (41, .iload_n 1, 0, 0, 0), (42, .iload_n 2, 0, 0, 0), (43, .invokevirtual 83, 5, 834, 0), (46, .invokevirtual 111, 5, 769, 0), (49, .iconst 0, 0, 0, 0), (50, .istore 5, 0, 0, 0)], 52),
  (52, [(52, .iload 5, 0, 0, 0), (54, .aload_n 0, 0, 0, 0), (55, .iload_n 1, 0, 0, 0), (56, .iload_n 2, 0, 0, 0), (57, .invokevirtual 83, 5, 834, 0), (60, .if_icmp .ge 31, 0, 0, 0), (63, .aload_n 0, 0, 0, 0), (64, .aload_n 0, 0, 0, 0), (65, .getfield 11, 5, 10, 0), (68, .iload_n 1, 0, 0, 0), (69, .sipush 512, 0, 0, 0), (72, .imul, 0, 0, 0), (73, .iload_n 2, 0, 0, 0), (74, .bipush 64, 0, 0, 0), (76, .imul, 0, 0, 0), (77, .iadd, 0, 0, 0), (78, .iload 5, 0, 0, 0), (80, .iadd, 0, 0, 0), (81, .caload, 0, 0, 0), (82, .invokevirtual 111, 5, 769, 0), (85, .iinc 5 1, 0, 0, 0), (88, .goto (-36), 0, 0, 0)], 91),
  (91, [(91, .aload_n 0, 0, 0, 0), (92, .iload_n 1, 0, 0, 0), (93, .iload_n 2, 0, 0, 0), (94, .invokevirtual 118, 5, 130, 0), (97, .iload_n 3, 0, 0, 0), (98, .iconst (-1), 0, 0, 0), (99, .if_icmp .lt 11, 0, 0, 0), (102, .iload_n 3, 0, 0, 0), (103, .aload_n 0, 0, 0, 0), (104, .getfield 108, 5, 104, 0), (107, .if_icmp .lt 5, 0, 0, 0)], 110),
  (110, [(110, .iconst (-1), 0, 0, 0), (111, .ireturn, 0, 0, 0)], 112),
  (112, [(112, .iload_n 3, 0, 0, 0), (113, .iconst (-1), 0, 0, 0), (114, .if_icmp .eq 18, 0, 0, 0), (117, .aload_n 0, 0, 0, 0), (118, .getfield 44, 5, 98, 0), (121, .iload_n 3, 0, 0, 0), (122, .dup2, 0, 0, 0), (123, .iaload, 0, 0, 0), (124, .iload 4, 0, 0, 0), (126, .sipush 255, 0, 0, 0), (129, .iand, 0, 0, 0), (130, .ixor, 0, 0, 0), (131, .iastore, 0, 0, 0)], 132),
  (132, [(132, .aload_n 0, 0, 0, 0), (133, .invokevirtual 122, 5, 576, 0), (136, .ifCond .eq 14, 0, 0, 0), (139, .aload_n 0, 0, 0, 0), (140, .invokevirtual 126, 5, 1280, 0), (143, .ifCond .eq 7, 0, 0, 0), (146, .iconst 1, 0, 0, 0), (147, .goto 4, 0, 0, 0)], 150),
  (150, [(150, .iconst 0, 0, 0, 0)], 151),
  (151, [(151, .ireturn, 0, 0, 0)], 152)]
def xk5_5 : XB := []
def xk5_6 : XB := []
def xk5_7 : XB := [(0, [(0, .aload_n 0, 0, 0, 0), (1, .invokespecial 5, 999, 0, 0), (4, .aload_n 0, 0, 0, 0), (5, .sipush 5120, 0, 0, 0), (8, .newarray .char, 104, 0, 0), (10, .putfield 11, 5, 10, 0), (13, .aload_n 0, 0, 0, 0), (14, .bipush 10, 0, 0, 0), (16, .newarray .int, 100, 0, 0), (18, .putfield 15, 5, 18, 0), (21, .aload_n 0, 0, 0, 0), (22, .sipush 4800, 0, 0, 0), (25, .newarray .int, 100, 0, 0), (27, .putfield 19, 5, 26, 0), (30, .aload_n 0, 0, 0, 0), (31, .sipush 160, 0, 0, 0), (34, .newarray .int, 100, 0, 0), (36, .putfield 22, 5, 34, 0), (39, .aload_n 0, 0, 0, 0), (40, .bipush 10, 0, 0, 0), (42, .newarray .boolean, 103, 0, 0), (44, .putfield 25, 5, 42, 0), (47, .aload_n 0, 0, 0, 0), (48, .sipush 128, 0, 0, 0), (51, .newarray .int, 100, 0, 0), (53, .putfield 29, 5, 58, 0), (56, .aload_n 0, 0, 0, 0), (57, .getstatic 32, 4, 0, 0), (60, .arraylength, 0, 0, 0), (61, .newarray .int, 100, 0, 0), (63, .putfield 35, 5, 74, 0), (66, .aload_n 0, 0, 0, 0), (67, .bipush 64, 0, 0, 0), (69, .newarray .int, 100, 0, 0), (71, .putfield 38, 5, 82, 0), (74, .aload_n 0, 0, 0, 0), (75, .bipush 32, 0, 0, 0), (77, .newarray .int, 100, 0, 0), (79, .putfield 41, 5, 90, 0), (82, .aload_n 0, 0, 0, 0), (83, .sipush 201, 0, 0, 0), (86, .newarray .int, 100, 0, 0), (88, .putfield 44, 5, 98, 0), (91, .return_, 0, 0, 0)], 92)]
def xk5_8 : XB := []
def xk5_9 : XB := []
def xk5_10 : XB := [(0, [(0, .iload_n 2, 0, 0, 0), (1, .ifCond .lt 16, 0, 0, 0), (4, .iload_n 2, 0, 0, 0), (5, .aload_n 0, 0, 0, 0), (6, .iload_n 1, 0, 0, 0), (7, .invokevirtual 76, 5, 897, 0), (10, .if_icmp .ge 7, 0, 0, 0), (13, .iconst 1, 0, 0, 0), (14, .goto 4, 0, 0, 0)], 17),
  (17, [(17, .iconst 0, 0, 0, 0)], 18),
  (18, [(18, .ireturn, 0, 0, 0)], 19)]
def xk5_11 : XB := [(0, [(0, .iload_n 1, 0, 0, 0), (1, .ifCond .lt 15, 0, 0, 0), (4, .iload_n 1, 0, 0, 0), (5, .aload_n 0, 0, 0, 0), (6, .getfield 53, 5, 0, 0), (9, .if_icmp .ge 7, 0, 0, 0), (12, .iconst 1, 0, 0, 0), (13, .goto 4, 0, 0, 0)], 16),
  (16, [(16, .iconst 0, 0, 0, 0)], 17),
  (17, [(17, .ireturn, 0, 0, 0)], 18)]
def xk5_12 : XB := []
def xk5_13 : XB := []
def xk5_14 : XB := [(0, [(0, .aload_n 0, 0, 0, 0), (1, .iload_n 1, 0, 0, 0), (2, .invokevirtual 66, 5, 705, 0), (5, .ifCond .eq 20, 0, 0, 0), (8, .aload_n 0, 0, 0, 0), (9, .getfield 15, 5, 18, 0), (12, .iload_n 1, 0, 0, 0), (13, .iaload, 0, 0, 0), (14, .bipush 64, 0, 0, 0), (16, .iadd, 0, 0, 0), (17, .iconst 1, 0, 0, 0), (18, .isub, 0, 0, 0), (19, .bipush 64, 0, 0, 0), (21, .idiv, 0, 0, 0), (22, .goto 4, 0, 0, 0)], 25),
  (25, [(25, .iconst 0, 0, 0, 0)], 26),
  (26, [(26, .ireturn, 0, 0, 0)], 27)]
def xk5_15 : XB := []
def xk5_16 : XB := []
def xk5_17 : XB := []
def xk5_18 : XB := [(0, [(0, .aload_n 0, 0, 0, 0), (1, .iload_n 1, 0, 0, 0), (2, .invokevirtual 66, 5, 705, 0), (5, .ifCond .ne 6, 0, 0, 0), (8, .bipush (-2), 0, 0, 0), (10, .ireturn, 0, 0, 0)], 11),
  (11, [(11, .aload_n 0, 0, 0, 0), (12, .getfield 138, 5, 48, 0), (15, .bipush 60, 0, 0, 0), (17, .if_icmp .lt 5, 0, 0, 0), (20, .iconst (-1), 0, 0, 0), (21, .ireturn, 0, 0, 0)], 22),
  (22, [(22, .aload_n 0, 0, 0, 0), (23, .getfield 25, 5, 42, 0), (26, .iload_n 1, 0, 0, 0), (27, .baload, 0, 0, 0), (28, .ifCond .ne 11, 0, 0, 0), (31, .aload_n 0, 0, 0, 0), (32, .iload_n 1, 0, 0, 0), (33, .invokevirtual 135, 5, 513, 0), (36, .ifCond .ne 6, 0, 0, 0)], 39),
  (39, [(39, .bipush (-5), 0, 0, 0), (41, .ireturn, 0, 0, 0)], 42),
  (42, [(42, .aload_n 0, 0, 0, 0), (43, .dup, 0, 0, 0), (44, .getfield 138, 5, 48, 0), (47, .iconst 1, 0, 0, 0), (48, .iadd, 0, 0, 0), (49, .putfield 138, 5, 48, 0), (52, .aload_n 0, 0, 0, 0), (53, .getfield 138, 5, 48, 0), (56, .iconst 1, 0, 0, 0), (57, .isub, 0, 0, 0), (58, .ireturn, 0, 0, 0)], 59)]
def xk5_19 : XB := [(0, [(0, .aload_n 0, 0, 0, 0), (1, .iload_n 1, 0, 0, 0), (2, .iload_n 2, 0, 0, 0), (3, .invokevirtual 114, 5, 642, 0), (6, .ifCond .ne 5, 0, 0, 0), (9, .iconst (-1), 0, 0, 0), (10, .ireturn, 0, 0, 0)], 11),
  (11, [(11, .aload_n 0, 0, 0, 0), (12, .iconst 0, 0, 0, 0), (13, .putfield 108, 5, 104, 0), (16, .aload_n 0, 0, 0, 0), (17, .iload_n 1, 0, 0, 0), (18, .iload_n 2, 0, 0, 0), (19, .invokevirtual 118, 5, 130, 0), (22, .iload_n 3, 0, 0, 0), (23, .ifCond .lt 20, 0, 0, 0), (26, .iload_n 3, 0, 0, 0), (27, .aload_n 0, 0, 0, 0), (28, .getfield 108, 5, 104, 0), (31, .if_icmp .ge 12, 0, 0, 0), (34, .aload_n 0, 0, 0, 0), (35, .getfield 44, 5, 98, 0), (38, .iload_n 3, 0, 0, 0), (39, .iaload, 0, 0, 0), (40, .goto 4, 0, 0, 0)], 43),
  (43, [(43, .iconst (-1), 0, 0, 0)], 44),
  (44, [(44, .ireturn, 0, 0, 0)], 45)]
def xk5_20 : XB := []
def xk5_21 : XB := []
def xk5_22 : XB := [(0, [(0, .aload_n 0, 0, 0, 0), (1, .iload_n 1, 0, 0, 0), (2, .invokevirtual 66, 5, 705, 0), (5, .ifCond .eq 28, 0, 0, 0), (8, .iload_n 2, 0, 0, 0), (9, .ifCond .lt 24, 0, 0, 0), (12, .iload_n 2, 0, 0, 0), (13, .bipush 32, 0, 0, 0), (15, .if_icmp .ge 18, 0, 0, 0), (18, .aload_n 0, 0, 0, 0), (19, .getfield 19, 5, 26, 0), (22, .aload_n 0, 0, 0, 0), (23, .iload_n 1, 0, 0, 0), (24, .invokevirtual 105, 5, 1345, 0), (27, .iload_n 2, 0, 0, 0), (28, .iadd, 0, 0, 0), (29, .iaload, 0, 0, 0), (30, .goto 4, 0, 0, 0)], 33),
  (33, [(33, .iconst (-1), 0, 0, 0)], 34),
  (34, [(34, .ireturn, 0, 0, 0)], 35)]
def xk5_23 : XB := [(0, [(0, .iload_n 2, 0, 0, 0), (1, .ifCond .lt 22, 0, 0, 0), (4, .iload_n 2, 0, 0, 0), (5, .bipush 16, 0, 0, 0), (7, .if_icmp .ge 16, 0, 0, 0), (10, .iload_n 3, 0, 0, 0), (11, .ifCond .lt 12, 0, 0, 0), (14, .iload_n 3, 0, 0, 0), (15, .iconst 4, 0, 0, 0), (16, .if_icmp .ge 7, 0, 0, 0), (19, .iconst 1, 0, 0, 0), (20, .goto 4, 0, 0, 0)], 23),
  (23, [(23, .iconst 0, 0, 0, 0)], 24),
  (24, [(24, .istore 4, 0, 0, 0), (26, .aload_n 0, 0, 0, 0), (27, .iload_n 1, 0, 0, 0), (28, .invokevirtual 66, 5, 705, 0), (31, .ifCond .eq 8, 0, 0, 0), (34, .iload 4, 0, 0, 0), (36, .ifCond .ne 6, 0, 0, 0)], 39),
  (39, [(39, .bipush (-2), 0, 0, 0), (41, .ireturn, 0, 0, 0)], 42),
  (42, [(42, .aload_n 0, 0, 0, 0), (43, .getfield 22, 5, 34, 0), (46, .iload_n 1, 0, 0, 0), (47, .bipush 16, 0, 0, 0), (49, .imul, 0, 0, 0), (50, .iload_n 2, 0, 0, 0), (51, .iadd, 0, 0, 0), (52, .iload_n 3, 0, 0, 0), (53, .iastore, 0, 0, 0), (54, .aload_n 0, 0, 0, 0), (55, .iload_n 1, 0, 0, 0), (56, .invokevirtual 135, 5, 513, 0), (59, .ifCond .eq 7, 0, 0, 0), (62, .iconst 1, 0, 0, 0), (63, .goto 4, 0, 0, 0)], 66),
  (66, [(66, .iconst 0, 0, 0, 0)], 67),
  (67, [(67, .ireturn, 0, 0, 0)], 68)]
def xk5_24 : XB := [(0, [(0, .aload_n 0, 0, 0, 0), (1, .iload_n 1, 0, 0, 0), (2, .invokevirtual 66, 5, 705, 0), (5, .ifCond .ne 6, 0, 0, 0), (8, .bipush (-2), 0, 0, 0), (10, .ireturn, 0, 0, 0)], 11),
  (11, [(11, .aload_n 0, 0, 0, 0), (12, .getfield 25, 5, 42, 0), (15, .iload_n 1, 0, 0, 0), (16, .baload, 0, 0, 0), (17, .ifCond .eq 6, 0, 0, 0), (20, .bipush (-4), 0, 0, 0), (22, .ireturn, 0, 0, 0)], 23),
  (23, [(23, .aload_n 0, 0, 0, 0), (24, .getfield 25, 5, 42, 0), (27, .iload_n 1, 0, 0, 0), (28, .iconst 1, 0, 0, 0), (29, .bastore, 0, 0, 0), (30, .iconst 0, 0, 0, 0), (31, .ireturn, 0, 0, 0)], 32)]
def xk5_25 : XB := []
def xk5_26 : XB := []
def xk5 : List XB := [xk5_0, xk5_1, xk5_2, xk5_3, xk5_4, xk5_5, xk5_6, xk5_7, xk5_8, xk5_9, xk5_10, xk5_11, xk5_12, xk5_13, xk5_14, xk5_15, xk5_16, xk5_17, xk5_18, xk5_19, xk5_20, xk5_21, xk5_22, xk5_23, xk5_24, xk5_25, xk5_26]
theorem xr5_0 : xRowOk (5, xmn 5 0, prog_7_method_2_code, 5, (some .int), xk5_0) = true := by decide +kernel
theorem xr5_1 : xRowOk (5, xmn 5 1, prog_7_method_23_code, 2, none, xk5_1) = true := by decide +kernel
theorem xr5_2 : xRowOk (5, xmn 5 2, prog_7_method_13_code, 10, none, xk5_2) = true := by decide +kernel
theorem xr5_3 : xRowOk (5, xmn 5 3, prog_7_method_7_code, 2, none, xk5_3) = true := by decide +kernel
theorem xr5_4 : xRowOk (5, xmn 5 4, prog_7_method_15_code, 6, (some .int), xk5_4) = true := by decide +kernel
theorem xr5_5 : xRowOk (5, xmn 5 5, prog_7_method_25_code, 7, none, xk5_5) = true := by decide +kernel
theorem xr5_6 : xRowOk (5, xmn 5 6, prog_7_method_6_code, 8, none, xk5_6) = true := by decide +kernel
theorem xr5_7 : xRowOk (5, xmn 5 7, prog_7_method_1_code, 1, none, xk5_7) = true := by decide +kernel
theorem xr5_8 : xRowOk (5, xmn 5 8, prog_7_method_20_code, 6, (some .boolean), xk5_8) = true := by decide +kernel
theorem xr5_9 : xRowOk (5, xmn 5 9, prog_7_method_16_code, 4, (some .boolean), xk5_9) = true := by decide +kernel
theorem xr5_10 : xRowOk (5, xmn 5 10, prog_7_method_11_code, 3, (some .boolean), xk5_10) = true := by decide +kernel
theorem xr5_11 : xRowOk (5, xmn 5 11, prog_7_method_3_code, 2, (some .boolean), xk5_11) = true := by decide +kernel
theorem xr5_12 : xRowOk (5, xmn 5 12, prog_7_method_12_code, 2, none, xk5_12) = true := by decide +kernel
theorem xr5_13 : xRowOk (5, xmn 5 13, prog_7_method_5_code, 3, (some .int), xk5_13) = true := by decide +kernel
theorem xr5_14 : xRowOk (5, xmn 5 14, prog_7_method_4_code, 2, (some .int), xk5_14) = true := by decide +kernel
theorem xr5_15 : xRowOk (5, xmn 5 15, prog_7_method_8_code, 6, none, xk5_15) = true := by decide +kernel
theorem xr5_16 : xRowOk (5, xmn 5 16, prog_7_method_24_code, 3, none, xk5_16) = true := by decide +kernel
theorem xr5_17 : xRowOk (5, xmn 5 17, prog_7_method_27_code, 14, none, xk5_17) = true := by decide +kernel
theorem xr5_18 : xRowOk (5, xmn 5 18, prog_7_method_22_code, 2, (some .int), xk5_18) = true := by decide +kernel
theorem xr5_19 : xRowOk (5, xmn 5 19, prog_7_method_14_code, 4, (some .int), xk5_19) = true := by decide +kernel
theorem xr5_20 : xRowOk (5, xmn 5 20, prog_7_method_17_code, 4, (some .boolean), xk5_20) = true := by decide +kernel
theorem xr5_21 : xRowOk (5, xmn 5 21, prog_7_method_9_code, 5, (some .int), xk5_21) = true := by decide +kernel
theorem xr5_22 : xRowOk (5, xmn 5 22, prog_7_method_10_code, 3, (some .int), xk5_22) = true := by decide +kernel
theorem xr5_23 : xRowOk (5, xmn 5 23, prog_7_method_19_code, 5, (some .int), xk5_23) = true := by decide +kernel
theorem xr5_24 : xRowOk (5, xmn 5 24, prog_7_method_21_code, 2, (some .int), xk5_24) = true := by decide +kernel
theorem xr5_25 : xRowOk (5, xmn 5 25, prog_7_method_18_code, 5, none, xk5_25) = true := by decide +kernel
theorem xr5_26 : xRowOk (5, xmn 5 26, prog_7_method_26_code, 2, (some .int), xk5_26) = true := by decide +kernel
