/-! the code of class 0, in stretches -/
def xk0_0 : XB := [(0, [(0, .aload_n 0, 0, 0, 0), (1, .getfield 9, 0, 0, 0), (4, .iconst (-1), 0, 0, 0), (5, .if_icmp .ne 6, 0, 0, 0), (8, .bipush (-3), 0, 0, 0), (10, .ireturn, 0, 0, 0)], 11),
  (11, [(11, .aload_n 0, 0, 0, 0), (12, .iload_n 1, 0, 0, 0), (13, .iload_n 2, 0, 0, 0), (14, .invokevirtual 112, 0, 1474, 0), (17, .istore 6, 0, 0, 0), (19, .aload_n 0, 0, 0, 0), (20, .iload_n 3, 0, 0, 0), (21, .iload 4, 0, 0, 0), (23, .iload 5, 0, 0, 0), (25, .invokevirtual 101, 0, 323, 0), (28, .istore 7, 0, 0, 0), (30, .iload 6, 0, 0, 0), (32, .iconst (-1), 0, 0, 0), (33, .if_icmp .eq 9, 0, 0, 0), (36, .iload 7, 0, 0, 0), (38, .iconst (-1), 0, 0, 0), (39, .if_icmp .ne 6, 0, 0, 0)], 42),
  (42, [(42, .bipush (-2), 0, 0, 0), (44, .ireturn, 0, 0, 0)], 45),
  (45, [(45, .aload_n 0, 0, 0, 0), (46, .iload_n 1, 0, 0, 0), (47, .iload_n 2, 0, 0, 0), (48, .invokevirtual 115, 0, 578, 0), (51, .ifCond .eq 6, 0, 0, 0), (54, .bipush (-4), 0, 0, 0), (56, .ireturn, 0, 0, 0)], 57),
  (57, [(57, .aload_n 0, 0, 0, 0), (58, .iload 6, 0, 0, 0), (60, .invokevirtual 118, 0, 1281, 0), (63, .istore 8, 0, 0, 0), (65, .aload_n 0, 0, 0, 0), (66, .getfield 46, 0, 82, 0), (69, .invokevirtual 121, 7, 128, 0), (72, .ifCond .eq 19, 0, 0, 0), (75, .iload 8, 0, 0, 0), (77, .iconst (-1), 0, 0, 0), (78, .if_icmp .ne 15, 0, 0, 0), (81, .aload_n 0, 0, 0, 0), (82, .getfield 50, 0, 90, 0), (85, .invokevirtual 121, 7, 128, 0), (88, .ifCond .ne 5, 0, 0, 0)], 91),
  (91, [(91, .iconst (-1), 0, 0, 0), (92, .ireturn, 0, 0, 0)], 93),
  (93, [(93, .iload 8, 0, 0, 0), (95, .iconst (-1), 0, 0, 0), (96, .if_icmp .ne 26, 0, 0, 0), (99, .aload_n 0, 0, 0, 0), (100, .getfield 50, 0, 90, 0), (103, .iload 6, 0, 0, 0), (105, .iconst 0, 0, 0, 0), (106, .iconst 0, 0, 0, 0), (107, .iconst 0, 0, 0, 0), (108, .iconst 0, 0, 0, 0), (109, .invokevirtual 125, 7, 5, 0), (112, .istore 8, 0, 0, 0), (114, .aload_n 0, 0, 0, 0), (115, .getfield 56, 0, 106, 0), (118, .iload 8, 0, 0, 0), (120, .iconst 0, 0, 0, 0), (121, .iastore, 0, 0, 0)], 122),
  (122, [(122, .aload_n 0, 0, 0, 0), (123, .getfield 28, 0, 50, 0), (126, .iload 7, 0, 0, 0), (128, .baload, 0, 0, 0), (129, .ifCond .ne 29, 0, 0, 0), (132, .aload_n 0, 0, 0, 0), (133, .getfield 38, 0, 74, 0), (136, .iload 7, 0, 0, 0), (138, .iaload, 0, 0, 0), (139, .iconst (-1), 0, 0, 0), (140, .if_icmp .ne 18, 0, 0, 0), (143, .aload_n 0, 0, 0, 0), (144, .iload 7, 0, 0, 0), (146, .iload 8, 0, 0, 0), (148, .invokevirtual 108, 0, 706, 0), (151, .ifCond .ne 7, 0, 0, 0), (154, .iconst 1, 0, 0, 0), (155, .goto 4, 0, 0, 0)], 158),
  (158, [(158, .iconst 0, 0, 0, 0)], 159),
  (159, [(159, .istore 9, 0, 0, 0), (161, .iload 9, 0, 0, 0), (163, .ifCond .eq 17, 0, 0, 0), (166, .aload_n 0, 0, 0, 0), (167, .getfield 50, 0, 90, 0), (170, .iload 8, 0, 0, 0), (172, .iconst 1, 0, 0, 0), (173, .invokevirtual 129, 7, 66, 0), (176, .iconst 5, 0, 0, 0), (177, .if_icmp .lt 6, 0, 0, 0)], 180),
  (180, [(180, .bipush (-4), 0, 0, 0), (182, .ireturn, 0, 0, 0)], 183),
  (183, [(183, .aload_n 0, 0, 0, 0), (184, .iload 8, 0, 0, 0), (186, .invokevirtual 132, 0, 961, 0), (189, .aload_n 0, 0, 0, 0), (190, .getfield 46, 0, 82, 0), (193, .iload_n 1, 0, 0, 0), (194, .iload_n 2, 0, 0, 0), (195, .iload 7, 0, 0, 0), (197, .iload 8, 0, 0, 0), (199, .iconst 0, 0, 0, 0), (200, .invokevirtual 125, 7, 5, 0), (203, .istore 10, 0, 0, 0), (205, .aload_n 0, 0, 0, 0), (206, .getfield 50, 0, 90, 0), (209, .iload 8, 0, 0, 0), (211, .iconst 1, 0, 0, 0), (212, .aload_n 0, 0, 0, 0), (213, .getfield 50, 0, 90, 0), (216, .iload 8, 0, 0, 0), (218, .iconst 1, 0, 0, 0), (219, .invokevirtual 129, 7, 66, 0), (222, .iconst 1, 0, 0, 0), (223, .iadd, 0, 0, 0), (224, .invokevirtual 135, 7, 259, 0), (227, .aload_n 0, 0, 0, 0), (228, .getfield 38, 0, 74, 0), (231, .iload 7, 0, 0, 0), (233, .iload 10, 0, 0, 0), (235, .iastore, 0, 0, 0), (236, .aload_n 0, 0, 0, 0), (237, .getfield 35, 0, 66, 0), (240, .iload 7, 0, 0, 0), (242, .iload 8, 0, 0, 0), (244, .iastore, 0, 0, 0), (245, .iload 10, 0, 0, 0), (247, .ireturn, 0, 0, 0)], 248)]
def xk0_1 : XB := []
def xk0_2 : XB := [(0, [(0, .aload_n 0, 0, 0, 0), (1, .getfield 9, 0, 0, 0), (4, .iconst (-1), 0, 0, 0), (5, .if_icmp .ne 6, 0, 0, 0), (8, .bipush (-3), 0, 0, 0), (10, .ireturn, 0, 0, 0)], 11),
  (11, [(11, .aload_n 0, 0, 0, 0), (12, .iload_n 1, 0, 0, 0), (13, .iload_n 2, 0, 0, 0), (14, .iload_n 3, 0, 0, 0), (15, .invokevirtual 101, 0, 323, 0), (18, .istore 4, 0, 0, 0), (20, .iload 4, 0, 0, 0), (22, .iconst (-1), 0, 0, 0), (23, .if_icmp .ne 6, 0, 0, 0), (26, .bipush (-2), 0, 0, 0), (28, .ireturn, 0, 0, 0)], 29),
  (29, [(29, .aload_n 0, 0, 0, 0), (30, .getfield 28, 0, 50, 0), (33, .iload 4, 0, 0, 0), (35, .baload, 0, 0, 0), (36, .ifCond .ne 14, 0, 0, 0), (39, .aload_n 0, 0, 0, 0), (40, .getfield 35, 0, 66, 0), (43, .iload 4, 0, 0, 0), (45, .iaload, 0, 0, 0), (46, .iconst (-1), 0, 0, 0), (47, .if_icmp .eq 6, 0, 0, 0)], 50),
  (50, [(50, .bipush (-4), 0, 0, 0), (52, .ireturn, 0, 0, 0)], 53),
  (53, [(53, .aload_n 0, 0, 0, 0), (54, .getfield 28, 0, 50, 0), (57, .iload 4, 0, 0, 0), (59, .iconst 1, 0, 0, 0), (60, .bastore, 0, 0, 0), (61, .iconst 0, 0, 0, 0), (62, .ireturn, 0, 0, 0)], 63)]
def xk0_3 : XB := []
def xk0_4 : XB := [(0, [(0, .iload_n 1, 0, 0, 0), (1, .ifCond .lt 14, 0, 0, 0), (4, .iload_n 1, 0, 0, 0), (5, .aload_n 0, 0, 0, 0), (6, .getfield 50, 0, 90, 0), (9, .getfield 75, 7, 16, 0), (12, .if_icmp .lt 5, 0, 0, 0)], 15),
  (15, [(15, .iconst (-1), 0, 0, 0), (16, .ireturn, 0, 0, 0)], 17),
  (17, [(17, .iconst 0, 0, 0, 0), (18, .istore_n 3, 0, 0, 0), (19, .iconst 0, 0, 0, 0), (20, .istore 4, 0, 0, 0)], 22),
  (22, [(22, .iload 4, 0, 0, 0), (24, .bipush 12, 0, 0, 0), (26, .if_icmp .ge 37, 0, 0, 0), (29, .aload_n 0, 0, 0, 0), (30, .getfield 50, 0, 90, 0), (33, .iload_n 1, 0, 0, 0), (34, .iconst 5, 0, 0, 0), (35, .invokevirtual 129, 7, 66, 0), (38, .iload 4, 0, 0, 0), (40, .ishr, 0, 0, 0), (41, .iconst 1, 0, 0, 0), (42, .iand, 0, 0, 0), (43, .ifCond .eq 14, 0, 0, 0), (46, .iload_n 3, 0, 0, 0), (47, .iload_n 2, 0, 0, 0), (48, .if_icmp .ne 6, 0, 0, 0), (51, .iload 4, 0, 0, 0), (53, .ireturn, 0, 0, 0)], 54),
  (54, [(54, .iinc 3 1, 0, 0, 0)], 57),
  (57, [(57, .iinc 4 1, 0, 0, 0), (60, .goto (-38), 0, 0, 0)], 63),
  (63, [(63, .iconst (-1), 0, 0, 0), (64, .ireturn, 0, 0, 0)], 65)]
def xk0_5 : XB := []
def xk0_6 : XB := []
def xk0_7 : XB := []
def xk0_8 : XB := []
def xk0_9 : XB := []
def xk0_10 : XB := [(0, [(0, .aload_n 0, 0, 0, 0), (1, .invokespecial 3, 999, 0, 0), (4, .aload_n 0, 0, 0, 0), (5, .iconst (-1), 0, 0, 0), (6, .putfield 9, 0, 0, 0), (9, .aload_n 0, 0, 0, 0), (10, .iconst 1, 0, 0, 0), (11, .putfield 15, 0, 8, 0), (14, .aload_n 0, 0, 0, 0), (15, .iconst 1, 0, 0, 0), (16, .putfield 18, 0, 16, 0), (19, .aload_n 0, 0, 0, 0), (20, .iconst 1, 0, 0, 0), (21, .putfield 21, 0, 24, 0), (24, .aload_n 0, 0, 0, 0), (25, .sipush 6144, 0, 0, 0), (28, .newarray .int, 100, 0, 0), (30, .putfield 24, 0, 42, 0), (33, .aload_n 0, 0, 0, 0), (34, .sipush 1024, 0, 0, 0), (37, .newarray .boolean, 103, 0, 0), (39, .putfield 28, 0, 50, 0), (42, .aload_n 0, 0, 0, 0), (43, .sipush 1024, 0, 0, 0), (46, .newarray .int, 100, 0, 0), (48, .putfield 32, 0, 58, 0), (51, .aload_n 0, 0, 0, 0), (52, .sipush 1024, 0, 0, 0), (55, .newarray .int, 100, 0, 0), (57, .putfield 35, 0, 66, 0), (60, .aload_n 0, 0, 0, 0), (61, .sipush 1024, 0, 0, 0), (64, .newarray .int, 100, 0, 0), (66, .putfield 38, 0, 74, 0), (69, .aload_n 0, 0, 0, 0), (70, .new 41, 7, 3, 0), (73, .dup, 0, 0, 0), (74, .bipush 40, 0, 0, 0), (76, .invokespecial 43, 7, 193, 0), (79, .putfield 46, 0, 82, 0), (82, .aload_n 0, 0, 0, 0), (83, .new 41, 7, 3, 0), (86, .dup, 0, 0, 0), (87, .bipush 12, 0, 0, 0), (89, .invokespecial 43, 7, 193, 0), (92, .putfield 50, 0, 90, 0), (95, .aload_n 0, 0, 0, 0), (96, .sipush 12288, 0, 0, 0), (99, .newarray .int, 100, 0, 0), (101, .putfield 53, 0, 98, 0), (104, .aload_n 0, 0, 0, 0), (105, .bipush 12, 0, 0, 0), (107, .newarray .int, 100, 0, 0), (109, .putfield 56, 0, 106, 0), (112, .aload_n 0, 0, 0, 0), (113, .iconst 4, 0, 0, 0), (114, .newarray .int, 100, 0, 0), (116, .putfield 59, 0, 114, 0), (119, .aload_n 0, 0, 0, 0), (120, .iconst 4, 0, 0, 0), (121, .newarray .int, 100, 0, 0), (123, .putfield 62, 0, 122, 0), (126, .aload_n 0, 0, 0, 0), (127, .iconst 4, 0, 0, 0), (128, .newarray .int, 100, 0, 0), (130, .putfield 65, 0, 130, 0), (133, .aload_n 0, 0, 0, 0), (134, .sipush 960, 0, 0, 0), (137, .newarray .int, 100, 0, 0), (139, .putfield 68, 0, 138, 0), (142, .return_, 0, 0, 0)], 143)]
def xk0_11 : XB := []
def xk0_12 : XB := [(0, [(0, .aload_n 0, 0, 0, 0), (1, .getfield 50, 0, 90, 0), (4, .iload_n 1, 0, 0, 0), (5, .iconst 2, 0, 0, 0), (6, .invokevirtual 129, 7, 66, 0), (9, .iconst 1, 0, 0, 0), (10, .if_icmp .ne 7, 0, 0, 0), (13, .iconst 1, 0, 0, 0), (14, .goto 4, 0, 0, 0)], 17),
  (17, [(17, .iconst 0, 0, 0, 0)], 18),
  (18, [(18, .ireturn, 0, 0, 0)], 19)]
def xk0_13 : XB := []
def xk0_14 : XB := []
def xk0_15 : XB := []
def xk0_16 : XB := []
def xk0_17 : XB := []
def xk0_18 : XB := []
def xk0_19 : XB := []
def xk0_20 : XB := []
def xk0_21 : XB := []
def xk0_22 : XB := []
def xk0_23 : XB := []
def xk0_24 : XB := []
def xk0_25 : XB := []
def xk0_26 : XB := []
def xk0_27 : XB := []
def xk0_28 : XB := [(0, [(0, .aload_n 0, 0, 0, 0), (1, .iload_n 1, 0, 0, 0), (2, .invokevirtual 139, 0, 769, 0), (5, .ifCond .eq 12, 0, 0, 0), (8, .aload_n 0, 0, 0, 0), (9, .iload_n 1, 0, 0, 0), (10, .iload_n 2, 0, 0, 0), (11, .invokevirtual 149, 0, 1666, 0), (14, .goto 4, 0, 0, 0)], 17),
  (17, [(17, .iconst (-1), 0, 0, 0)], 18),
  (18, [(18, .istore 4, 0, 0, 0), (20, .iload 4, 0, 0, 0), (22, .iconst (-1), 0, 0, 0), (23, .if_icmp .ne 5, 0, 0, 0), (26, .iconst (-1), 0, 0, 0), (27, .ireturn, 0, 0, 0)], 28),
  (28, [(28, .iload_n 3, 0, 0, 0), (29, .tableswitch 48 0 2 #[27, 34, 41], 0, 0, 0)], 56),
  (56, [(56, .aload_n 0, 0, 0, 0), (57, .iload 4, 0, 0, 0), (59, .invokevirtual 91, 0, 897, 0), (62, .ireturn, 0, 0, 0)], 63),
  (63, [(63, .aload_n 0, 0, 0, 0), (64, .iload 4, 0, 0, 0), (66, .invokevirtual 95, 0, 385, 0), (69, .ireturn, 0, 0, 0)], 70),
  (70, [(70, .aload_n 0, 0, 0, 0), (71, .iload 4, 0, 0, 0), (73, .invokevirtual 98, 0, 1345, 0), (76, .ireturn, 0, 0, 0)], 77),
  (77, [(77, .iconst (-1), 0, 0, 0), (78, .ireturn, 0, 0, 0)], 79)]
def xk0 : List XB := [xk0_0, xk0_1, xk0_2, xk0_3, xk0_4, xk0_5, xk0_6, xk0_7, xk0_8, xk0_9, xk0_10, xk0_11, xk0_12, xk0_13, xk0_14, xk0_15, xk0_16, xk0_17, xk0_18, xk0_19, xk0_20, xk0_21, xk0_22, xk0_23, xk0_24, xk0_25, xk0_26, xk0_27, xk0_28]
theorem xr0_0 : xRowOk (0, xmn 0 0, prog_2_method_14_code, 11, (some .int), xk0_0) = true := by decide +kernel
theorem xr0_1 : xRowOk (0, xmn 0 1, prog_2_method_25_code, 3, none, xk0_1) = true := by decide +kernel
theorem xr0_2 : xRowOk (0, xmn 0 2, prog_2_method_18_code, 5, (some .int), xk0_2) = true := by decide +kernel
theorem xr0_3 : xRowOk (0, xmn 0 3, prog_2_method_2_code, 7, none, xk0_3) = true := by decide +kernel
theorem xr0_4 : xRowOk (0, xmn 0 4, prog_2_method_29_code, 5, (some .int), xk0_4) = true := by decide +kernel
theorem xr0_5 : xRowOk (0, xmn 0 5, prog_2_method_5_code, 5, (some .int), xk0_5) = true := by decide +kernel
theorem xr0_6 : xRowOk (0, xmn 0 6, prog_2_method_8_code, 2, (some .int), xk0_6) = true := by decide +kernel
theorem xr0_7 : xRowOk (0, xmn 0 7, prog_2_method_12_code, 7, (some .int), xk0_7) = true := by decide +kernel
theorem xr0_8 : xRowOk (0, xmn 0 8, prog_2_method_10_code, 6, none, xk0_8) = true := by decide +kernel
theorem xr0_9 : xRowOk (0, xmn 0 9, prog_2_method_16_code, 5, (some .boolean), xk0_9) = true := by decide +kernel
theorem xr0_10 : xRowOk (0, xmn 0 10, prog_2_method_1_code, 1, none, xk0_10) = true := by decide +kernel
theorem xr0_11 : xRowOk (0, xmn 0 11, prog_2_method_13_code, 3, (some .boolean), xk0_11) = true := by decide +kernel
theorem xr0_12 : xRowOk (0, xmn 0 12, prog_2_method_19_code, 2, (some .boolean), xk0_12) = true := by decide +kernel
theorem xr0_13 : xRowOk (0, xmn 0 13, prog_2_method_20_code, 2, (some .boolean), xk0_13) = true := by decide +kernel
theorem xr0_14 : xRowOk (0, xmn 0 14, prog_2_method_6_code, 2, (some .int), xk0_14) = true := by decide +kernel
theorem xr0_15 : xRowOk (0, xmn 0 15, prog_2_method_24_code, 4, none, xk0_15) = true := by decide +kernel
theorem xr0_16 : xRowOk (0, xmn 0 16, prog_2_method_9_code, 3, (some .int), xk0_16) = true := by decide +kernel
theorem xr0_17 : xRowOk (0, xmn 0 17, prog_2_method_21_code, 3, (some .int), xk0_17) = true := by decide +kernel
theorem xr0_18 : xRowOk (0, xmn 0 18, prog_2_method_22_code, 2, (some .int), xk0_18) = true := by decide +kernel
theorem xr0_19 : xRowOk (0, xmn 0 19, prog_2_method_23_code, 2, (some .int), xk0_19) = true := by decide +kernel
theorem xr0_20 : xRowOk (0, xmn 0 20, prog_2_method_17_code, 3, (some .int), xk0_20) = true := by decide +kernel
theorem xr0_21 : xRowOk (0, xmn 0 21, prog_2_method_7_code, 2, (some .int), xk0_21) = true := by decide +kernel
theorem xr0_22 : xRowOk (0, xmn 0 22, prog_2_method_4_code, 5, none, xk0_22) = true := by decide +kernel
theorem xr0_23 : xRowOk (0, xmn 0 23, prog_2_method_15_code, 4, (some .int), xk0_23) = true := by decide +kernel
theorem xr0_24 : xRowOk (0, xmn 0 24, prog_2_method_11_code, 6, (some .int), xk0_24) = true := by decide +kernel
theorem xr0_25 : xRowOk (0, xmn 0 25, prog_2_method_3_code, 3, none, xk0_25) = true := by decide +kernel
theorem xr0_26 : xRowOk (0, xmn 0 26, prog_2_method_27_code, 3, (some .int), xk0_26) = true := by decide +kernel
theorem xr0_27 : xRowOk (0, xmn 0 27, prog_2_method_26_code, 2, (some .int), xk0_27) = true := by decide +kernel
theorem xr0_28 : xRowOk (0, xmn 0 28, prog_2_method_28_code, 5, (some .int), xk0_28) = true := by decide +kernel
