/-! the code of class 13, in stretches -/
def xk13_0 : XB := []
def xk13_1 : XB := []
def xk13_2 : XB := []
def xk13_3 : XB := [(0, [(0, .aload_n 0, 0, 0, 0), (1, .iconst 2, 0, 0, 0), (2, .invokevirtual 91, 13, 513, 0), (5, .ifCond .ne 5, 0, 0, 0), (8, .iconst 0, 0, 0, 0), (9, .ireturn, 0, 0, 0)], 10),
  (10, [(10, .aload_n 0, 0, 0, 0), (11, .iload_n 1, 0, 0, 0), (12, .ifCond .lt 15, 0, 0, 0), (15, .iload_n 1, 0, 0, 0), (16, .aload_n 0, 0, 0, 0), (17, .getfield 64, 13, 40, 0), (20, .if_icmp .gt 7, 0, 0, 0), (23, .iconst 0, 0, 0, 0), (24, .goto 4, 0, 0, 0)], 27),
  (27, [(27, .iconst 1, 0, 0, 0)], 28),
  (28, [(28, .putfield 48, 13, 0, 0), (31, .aload_n 0, 0, 0, 0), (32, .getfield 48, 13, 0, 0), (35, .ifCond .eq 5, 0, 0, 0), (38, .iconst 0, 0, 0, 0), (39, .ireturn, 0, 0, 0)], 40),
  (40, [(40, .aload_n 0, 0, 0, 0), (41, .getfield 64, 13, 40, 0), (44, .iload_n 1, 0, 0, 0), (45, .if_icmp .le 7, 0, 0, 0), (48, .iconst 1, 0, 0, 0), (49, .goto 4, 0, 0, 0)], 52),
  (52, [(52, .iconst 0, 0, 0, 0)], 53),
  (53, [(53, .istore_n 2, 0, 0, 0), (54, .aload_n 0, 0, 0, 0), (55, .iload_n 1, 0, 0, 0), (56, .putfield 64, 13, 40, 0), (59, .aload_n 0, 0, 0, 0), (60, .iconst 0, 0, 0, 0), (61, .putfield 97, 13, 24, 0), (64, .aload_n 0, 0, 0, 0), (65, .iconst 0, 0, 0, 0), (66, .putfield 117, 13, 56, 0), (69, .iconst 0, 0, 0, 0), (70, .istore_n 3, 0, 0, 0)], 71),
  (71, [(71, .iload_n 3, 0, 0, 0), (72, .bipush 24, 0, 0, 0), (74, .if_icmp .ge 16, 0, 0, 0), (77, .aload_n 0, 0, 0, 0), (78, .getfield 22, 13, 82, 0), (81, .iload_n 3, 0, 0, 0), (82, .iconst 0, 0, 0, 0), (83, .bastore, 0, 0, 0), (84, .iinc 3 1, 0, 0, 0), (87, .goto (-16), 0, 0, 0)], 90),
  (90, [(90, .aload_n 0, 0, 0, 0), (91, .iconst 1, 0, 0, 0), (92, .putfield 84, 13, 19, 0), (95, .iload_n 2, 0, 0, 0), (96, .ireturn, 0, 0, 0)], 97)]
def xk13_4 : XB := []
def xk13_5 : XB := [(0, [(0, .aload_n 0, 0, 0, 0), (1, .invokespecial 1, 999, 0, 0), (4, .aload_n 0, 0, 0, 0), (5, .bipush 24, 0, 0, 0), (7, .newarray .int, 100, 0, 0), (9, .putfield 7, 13, 34, 0), (12, .aload_n 0, 0, 0, 0), (13, .sipush 400, 0, 0, 0), (16, .newarray .int, 100, 0, 0), (18, .putfield 13, 13, 50, 0), (21, .aload_n 0, 0, 0, 0), (22, .bipush 8, 0, 0, 0), (24, .newarray .int, 100, 0, 0), (26, .putfield 16, 13, 66, 0), (29, .aload_n 0, 0, 0, 0), (30, .sipush 5600, 0, 0, 0), (33, .newarray .int, 100, 0, 0), (35, .putfield 19, 13, 74, 0), (38, .aload_n 0, 0, 0, 0), (39, .bipush 24, 0, 0, 0), (41, .newarray .boolean, 103, 0, 0), (43, .putfield 22, 13, 82, 0), (46, .aload_n 0, 0, 0, 0), (47, .bipush 24, 0, 0, 0), (49, .newarray .int, 100, 0, 0), (51, .putfield 26, 13, 98, 0), (54, .aload_n 0, 0, 0, 0), (55, .bipush 24, 0, 0, 0), (57, .newarray .int, 100, 0, 0), (59, .putfield 29, 13, 106, 0), (62, .aload_n 0, 0, 0, 0), (63, .bipush 24, 0, 0, 0), (65, .newarray .boolean, 103, 0, 0), (67, .putfield 32, 13, 114, 0), (70, .aload_n 0, 0, 0, 0), (71, .bipush 13, 0, 0, 0), (73, .newarray .int, 100, 0, 0), (75, .putfield 35, 13, 130, 0), (78, .aload_n 0, 0, 0, 0), (79, .bipush 104, 0, 0, 0), (81, .newarray .int, 100, 0, 0), (83, .putfield 38, 13, 138, 0), (86, .aload_n 0, 0, 0, 0), (87, .bipush 13, 0, 0, 0), (89, .newarray .boolean, 103, 0, 0), (91, .putfield 41, 13, 146, 0), (94, .aload_n 0, 0, 0, 0), (95, .iload_n 1, 0, 0, 0), (96, .iconst 1, 0, 0, 0), (97, .if_icmp .ge 7, 0, 0, 0), (100, .iconst 1, 0, 0, 0), (101, .goto 15, 0, 0, 0)], 104),
  (104, [(104, .iload_n 1, 0, 0, 0), (105, .bipush 8, 0, 0, 0), (107, .if_icmp .le 8, 0, 0, 0), (110, .bipush 8, 0, 0, 0), (112, .goto 4, 0, 0, 0)], 115),
  (115, [(115, .iload_n 1, 0, 0, 0)], 116),
  (116, [(116, .putfield 44, 13, 8, 0), (119, .return_, 0, 0, 0)], 120)]
def xk13_6 : XB := []
def xk13_7 : XB := []
def xk13_8 : XB := [(0, [(0, .aload_n 0, 0, 0, 0), (1, .aload_n 0, 0, 0, 0), (2, .getfield 84, 13, 19, 0), (5, .ifCond .eq 7, 0, 0, 0), (8, .iload_n 1, 0, 0, 0), (9, .goto 4, 0, 0, 0)], 12),
  (12, [(12, .iconst 0, 0, 0, 0)], 13),
  (13, [(13, .putfield 48, 13, 0, 0), (16, .aload_n 0, 0, 0, 0), (17, .getfield 84, 13, 19, 0), (20, .ifCond .ne 7, 0, 0, 0), (23, .aload_n 0, 0, 0, 0), (24, .invokevirtual 88, 13, 1088, 0)], 27),
  (27, [(27, .aload_n 0, 0, 0, 0), (28, .getfield 84, 13, 19, 0), (31, .ifCond .ne 7, 0, 0, 0), (34, .iconst 1, 0, 0, 0), (35, .goto 4, 0, 0, 0)], 38),
  (38, [(38, .iconst 0, 0, 0, 0)], 39),
  (39, [(39, .ireturn, 0, 0, 0)], 40)]
def xk13_9 : XB := [(0, [(0, .iload_n 1, 0, 0, 0), (1, .ifCond .lt 15, 0, 0, 0), (4, .iload_n 1, 0, 0, 0), (5, .aload_n 0, 0, 0, 0), (6, .getfield 51, 13, 120, 0), (9, .if_icmp .ge 7, 0, 0, 0), (12, .iconst 1, 0, 0, 0), (13, .goto 4, 0, 0, 0)], 16),
  (16, [(16, .iconst 0, 0, 0, 0)], 17),
  (17, [(17, .ireturn, 0, 0, 0)], 18)]
def xk13_10 : XB := [(0, [(0, .aload_n 0, 0, 0, 0), (1, .iconst 2, 0, 0, 0), (2, .invokevirtual 91, 13, 513, 0), (5, .ifCond .ne 5, 0, 0, 0), (8, .iconst 0, 0, 0, 0), (9, .ireturn, 0, 0, 0)], 10),
  (10, [(10, .aload_n 0, 0, 0, 0), (11, .aload_n 0, 0, 0, 0), (12, .iload_n 1, 0, 0, 0), (13, .invokevirtual 106, 13, 577, 0), (16, .ifCond .eq 11, 0, 0, 0), (19, .iload_n 2, 0, 0, 0), (20, .ifCond .lt 7, 0, 0, 0), (23, .iconst 0, 0, 0, 0), (24, .goto 4, 0, 0, 0)], 27),
  (27, [(27, .iconst 1, 0, 0, 0)], 28),
  (28, [(28, .putfield 48, 13, 0, 0), (31, .aload_n 0, 0, 0, 0), (32, .getfield 48, 13, 0, 0), (35, .ifCond .eq 5, 0, 0, 0), (38, .iconst 0, 0, 0, 0), (39, .ireturn, 0, 0, 0)], 40),
  (40, [(40, .iload_n 2, 0, 0, 0), (41, .istore_n 3, 0, 0, 0), (42, .iconst 0, 0, 0, 0), (43, .istore 4, 0, 0, 0)], 45),
  (45, [(45, .iload 4, 0, 0, 0), (47, .aload_n 0, 0, 0, 0), (48, .getfield 35, 13, 130, 0), (51, .iload_n 1, 0, 0, 0), (52, .iaload, 0, 0, 0), (53, .if_icmp .ge 59, 0, 0, 0), (56, .aload_n 0, 0, 0, 0), (57, .getfield 38, 13, 138, 0), (60, .bipush 8, 0, 0, 0), (62, .iload_n 1, 0, 0, 0), (63, .imul, 0, 0, 0), (64, .iload 4, 0, 0, 0), (66, .iadd, 0, 0, 0), (67, .iaload, 0, 0, 0), (68, .istore 5, 0, 0, 0), (70, .iload_n 3, 0, 0, 0), (71, .aload_n 0, 0, 0, 0), (72, .getfield 29, 13, 106, 0), (75, .iload 5, 0, 0, 0), (77, .iaload, 0, 0, 0), (78, .if_icmp .ge 18, 0, 0, 0), (81, .aload_n 0, 0, 0, 0), (82, .getfield 13, 13, 50, 0), (85, .aload_n 0, 0, 0, 0), (86, .getfield 26, 13, 98, 0), (89, .iload 5, 0, 0, 0), (91, .iaload, 0, 0, 0), (92, .iload_n 3, 0, 0, 0), (93, .iadd, 0, 0, 0), (94, .iaload, 0, 0, 0), (95, .ireturn, 0, 0, 0)], 96),
  (96, [(96, .iload_n 3, 0, 0, 0), (97, .aload_n 0, 0, 0, 0), (98, .getfield 29, 13, 106, 0), (101, .iload 5, 0, 0, 0), (103, .iaload, 0, 0, 0), (104, .isub, 0, 0, 0), (105, .istore_n 3, 0, 0, 0), (106, .iinc 4 1, 0, 0, 0), (109, .goto (-64), 0, 0, 0)], 112),
  (112, [(112, .iconst (-1), 0, 0, 0), (113, .ireturn, 0, 0, 0)], 114)]
def xk13_11 : XB := []
def xk13_12 : XB := []
def xk13_13 : XB := [(0, [(0, .aload_n 0, 0, 0, 0), (1, .iconst 1, 0, 0, 0), (2, .invokevirtual 91, 13, 513, 0), (5, .ifCond .eq 13, 0, 0, 0), (8, .aload_n 0, 0, 0, 0), (9, .getfield 64, 13, 40, 0), (12, .sipush 400, 0, 0, 0), (15, .if_icmp .ne 5, 0, 0, 0)], 18),
  (18, [(18, .iconst 0, 0, 0, 0), (19, .ireturn, 0, 0, 0)], 20),
  (20, [(20, .aload_n 0, 0, 0, 0), (21, .invokevirtual 71, 13, 896, 0), (24, .aload_n 0, 0, 0, 0), (25, .getfield 54, 13, 160, 0), (28, .istore_n 1, 0, 0, 0), (29, .aload_n 0, 0, 0, 0), (30, .iconst 5, 0, 0, 0), (31, .invokevirtual 103, 13, 1153, 0), (34, .iload_n 1, 0, 0, 0), (35, .ireturn, 0, 0, 0)], 36)]
def xk13_14 : XB := [(0, [(0, .aload_n 0, 0, 0, 0), (1, .iconst 0, 0, 0, 0), (2, .putfield 54, 13, 160, 0), (5, .iconst 0, 0, 0, 0), (6, .istore_n 1, 0, 0, 0)], 7),
  (7, [(7, .iload_n 1, 0, 0, 0), (8, .aload_n 0, 0, 0, 0), (9, .getfield 57, 13, 88, 0), (12, .if_icmp .ge 46, 0, 0, 0), (15, .aload_n 0, 0, 0, 0), (16, .getfield 32, 13, 114, 0), (19, .iload_n 1, 0, 0, 0), (20, .baload, 0, 0, 0), (21, .ifCond .eq 31, 0, 0, 0), (24, .aload_n 0, 0, 0, 0), (25, .iload_n 1, 0, 0, 0), (26, .invokevirtual 60, 13, 449, 0), (29, .ifCond .eq 6, 0, 0, 0), (32, .goto 20, 0, 0, 0)], 35),
  (35, [(35, .aload_n 0, 0, 0, 0), (36, .getfield 32, 13, 114, 0), (39, .iload_n 1, 0, 0, 0), (40, .iconst 0, 0, 0, 0), (41, .bastore, 0, 0, 0), (42, .aload_n 0, 0, 0, 0), (43, .dup, 0, 0, 0), (44, .getfield 54, 13, 160, 0), (47, .iconst 1, 0, 0, 0), (48, .iadd, 0, 0, 0), (49, .putfield 54, 13, 160, 0)], 52),
  (52, [(52, .iinc 1 1, 0, 0, 0), (55, .goto (-48), 0, 0, 0)], 58),
  (58, [(58, .return_, 0, 0, 0)], 59)]
def xk13_15 : XB := [(0, [(0, .aload_n 0, 0, 0, 0), (1, .getfield 48, 13, 0, 0), (4, .ireturn, 0, 0, 0)], 5)]
def xk13_16 : XB := []
def xk13_17 : XB := [(0, [(0, .aload_n 0, 0, 0, 0), (1, .iconst 0, 0, 0, 0), (2, .putfield 57, 13, 88, 0), (5, .aload_n 0, 0, 0, 0), (6, .iconst 0, 0, 0, 0), (7, .putfield 51, 13, 120, 0), (10, .aload_n 0, 0, 0, 0), (11, .getfield 35, 13, 130, 0), (14, .iconst 0, 0, 0, 0), (15, .iconst 0, 0, 0, 0), (16, .iastore, 0, 0, 0), (17, .aload_n 0, 0, 0, 0), (18, .getfield 41, 13, 146, 0), (21, .iconst 0, 0, 0, 0), (22, .iconst 0, 0, 0, 0), (23, .bastore, 0, 0, 0), (24, .aload_n 0, 0, 0, 0), (25, .iconst 0, 0, 0, 0), (26, .putfield 74, 13, 152, 0)], 29),
  (29, [(29, .aload_n 0, 0, 0, 0), (30, .getfield 74, 13, 152, 0), (33, .aload_n 0, 0, 0, 0), (34, .getfield 64, 13, 40, 0), (37, .if_icmp .ge 51, 0, 0, 0), (40, .aload_n 0, 0, 0, 0), (41, .getfield 74, 13, 152, 0), (44, .aload_n 0, 0, 0, 0), (45, .aload_n 0, 0, 0, 0), (46, .getfield 74, 13, 152, 0), (49, .invokevirtual 77, 13, 769, 0), (52, .iadd, 0, 0, 0), (53, .aload_n 0, 0, 0, 0), (54, .getfield 64, 13, 40, 0), (57, .if_icmp .gt 31, 0, 0, 0), (60, .aload_n 0, 0, 0, 0), (61, .aload_n 0, 0, 0, 0), (62, .getfield 74, 13, 152, 0), (65, .invokevirtual 81, 13, 1, 0), (68, .aload_n 0, 0, 0, 0), (69, .dup, 0, 0, 0), (70, .getfield 74, 13, 152, 0), (73, .aload_n 0, 0, 0, 0), (74, .aload_n 0, 0, 0, 0), (75, .getfield 74, 13, 152, 0), (78, .invokevirtual 77, 13, 769, 0), (81, .iadd, 0, 0, 0), (82, .putfield 74, 13, 152, 0), (85, .goto (-56), 0, 0, 0)], 88),
  (88, [(88, .return_, 0, 0, 0)], 89)]
def xk13_18 : XB := [(0, [(0, .aload_n 0, 0, 0, 0), (1, .getfield 13, 13, 50, 0), (4, .aload_n 0, 0, 0, 0), (5, .getfield 64, 13, 40, 0), (8, .iload_n 1, 0, 0, 0), (9, .iastore, 0, 0, 0), (10, .aload_n 0, 0, 0, 0), (11, .dup, 0, 0, 0), (12, .getfield 64, 13, 40, 0), (15, .iconst 1, 0, 0, 0), (16, .iadd, 0, 0, 0), (17, .putfield 64, 13, 40, 0), (20, .return_, 0, 0, 0)], 21)]
def xk13 : List XB := [xk13_0, xk13_1, xk13_2, xk13_3, xk13_4, xk13_5, xk13_6, xk13_7, xk13_8, xk13_9, xk13_10, xk13_11, xk13_12, xk13_13, xk13_14, xk13_15, xk13_16, xk13_17, xk13_18]
theorem xr13_0 : xRowOk (13, xmn 13 0, prog_16_method_7_code, 3, none, xk13_0) = true := by decide +kernel
theorem xr13_1 : xRowOk (13, xmn 13 1, prog_16_method_3_code, 2, none, xk13_1) = true := by decide +kernel
theorem xr13_2 : xRowOk (13, xmn 13 2, prog_16_method_14_code, 5, (some .int), xk13_2) = true := by decide +kernel
theorem xr13_3 : xRowOk (13, xmn 13 3, prog_16_method_33_code, 4, (some .boolean), xk13_3) = true := by decide +kernel
theorem xr13_4 : xRowOk (13, xmn 13 4, prog_16_method_19_code, 2, (some .boolean), xk13_4) = true := by decide +kernel
theorem xr13_5 : xRowOk (13, xmn 13 5, prog_16_method_1_code, 2, none, xk13_5) = true := by decide +kernel
theorem xr13_6 : xRowOk (13, xmn 13 6, prog_16_method_13_code, 4, (some .boolean), xk13_6) = true := by decide +kernel
theorem xr13_7 : xRowOk (13, xmn 13 7, prog_16_method_4_code, 5, (some .boolean), xk13_7) = true := by decide +kernel
theorem xr13_8 : xRowOk (13, xmn 13 8, prog_16_method_9_code, 2, (some .boolean), xk13_8) = true := by decide +kernel
theorem xr13_9 : xRowOk (13, xmn 13 9, prog_16_method_17_code, 2, (some .boolean), xk13_9) = true := by decide +kernel
theorem xr13_10 : xRowOk (13, xmn 13 10, prog_16_method_23_code, 6, (some .int), xk13_10) = true := by decide +kernel
theorem xr13_11 : xRowOk (13, xmn 13 11, prog_16_method_34_code, 1, (some .int), xk13_11) = true := by decide +kernel
theorem xr13_12 : xRowOk (13, xmn 13 12, prog_16_method_6_code, 3, (some .int), xk13_12) = true := by decide +kernel
theorem xr13_13 : xRowOk (13, xmn 13 13, prog_16_method_16_code, 2, (some .int), xk13_13) = true := by decide +kernel
theorem xr13_14 : xRowOk (13, xmn 13 14, prog_16_method_5_code, 2, none, xk13_14) = true := by decide +kernel
theorem xr13_15 : xRowOk (13, xmn 13 15, prog_16_method_2_code, 1, (some .int), xk13_15) = true := by decide +kernel
theorem xr13_16 : xRowOk (13, xmn 13 16, prog_16_method_15_code, 1, (some .int), xk13_16) = true := by decide +kernel
theorem xr13_17 : xRowOk (13, xmn 13 17, prog_16_method_8_code, 1, none, xk13_17) = true := by decide +kernel
theorem xr13_18 : xRowOk (13, xmn 13 18, prog_16_method_10_code, 2, none, xk13_18) = true := by decide +kernel
