/-! the code of class 9, in stretches -/
def xk9_0 : XB := [(0, [(0, .iload_n 1, 0, 0, 0), (1, .istore_n 3, 0, 0, 0), (2, .iconst 0, 0, 0, 0), (3, .istore 4, 0, 0, 0)], 5),
  (5, [(5, .iload 4, 0, 0, 0), (7, .sipush 200, 0, 0, 0), (10, .if_icmp .ge 36, 0, 0, 0), (13, .iload_n 3, 0, 0, 0), (14, .iconst (-1), 0, 0, 0), (15, .if_icmp .eq 31, 0, 0, 0), (18, .aload_n 0, 0, 0, 0), (19, .getfield 9, 9, 58, 0), (22, .getfield 93, 2, 42, 0), (25, .iload_n 3, 0, 0, 0), (26, .iaload, 0, 0, 0), (27, .iload_n 2, 0, 0, 0), (28, .if_icmp .le 18, 0, 0, 0), (31, .aload_n 0, 0, 0, 0), (32, .getfield 9, 9, 58, 0), (35, .iload_n 3, 0, 0, 0), (36, .invokevirtual 87, 2, 1281, 0), (39, .istore_n 3, 0, 0, 0), (40, .iinc 4 1, 0, 0, 0), (43, .goto (-38), 0, 0, 0)], 46),
  (46, [(46, .iload_n 3, 0, 0, 0), (47, .ireturn, 0, 0, 0)], 48)]
def xk9_1 : XB := []
def xk9_2 : XB := [(0, [(0, .aload_n 0, 0, 0, 0), (1, .getfield 32, 9, 24, 0), (4, .iconst (-1), 0, 0, 0), (5, .if_icmp .ne 8, 0, 0, 0), (8, .aload_n 0, 0, 0, 0), (9, .iload_n 1, 0, 0, 0), (10, .putfield 32, 9, 24, 0)], 13),
  (13, [(13, .return_, 0, 0, 0)], 14)]
def xk9_3 : XB := [(0, [(0, .aload_n 0, 0, 0, 0), (1, .aload_n 1, 0, 0, 0), (2, .putfield 15, 9, 2, 0), (5, .aload_n 0, 0, 0, 0), (6, .iload_n 2, 0, 0, 0), (7, .aload_n 1, 0, 0, 0), (8, .arraylength, 0, 0, 0), (9, .invokestatic 19, 999, 12, 0), (12, .putfield 25, 9, 8, 0), (15, .aload_n 0, 0, 0, 0), (16, .iconst 0, 0, 0, 0), (17, .putfield 29, 9, 16, 0), (20, .aload_n 0, 0, 0, 0), (21, .iconst (-1), 0, 0, 0), (22, .putfield 32, 9, 24, 0), (25, .aload_n 0, 0, 0, 0), (26, .iconst 0, 0, 0, 0), (27, .putfield 35, 9, 32, 0), (30, .aload_n 0, 0, 0, 0), (31, .iconst 1, 0, 0, 0), (32, .putfield 38, 9, 40, 0), (35, .aload_n 0, 0, 0, 0), (36, .iload_n 3, 0, 0, 0), (37, .ifCond .ne 7, 0, 0, 0), (40, .iconst 1, 0, 0, 0), (41, .goto 4, 0, 0, 0)], 44),
  (44, [(44, .iconst 0, 0, 0, 0)], 45),
  (45, [(45, .putfield 41, 9, 51, 0), (48, .aload_n 0, 0, 0, 0), (49, .aload 4, 0, 0, 0), (51, .putfield 9, 9, 58, 0), (54, .aload_n 0, 0, 0, 0), (55, .getfield 9, 9, 58, 0), (58, .iload_n 3, 0, 0, 0), (59, .invokevirtual 45, 2, 129, 0), (62, .aload_n 0, 0, 0, 0), (63, .getfield 41, 9, 51, 0), (66, .ifCond .eq 10, 0, 0, 0), (69, .aload_n 0, 0, 0, 0), (70, .invokevirtual 51, 9, 1216, 0), (73, .goto 7, 0, 0, 0)], 76),
  (76, [(76, .aload_n 0, 0, 0, 0), (77, .invokevirtual 54, 9, 1088, 0)], 80),
  (80, [(80, .aload_n 0, 0, 0, 0), (81, .getfield 32, 9, 24, 0), (84, .ireturn, 0, 0, 0)], 85)]
def xk9_4 : XB := []
def xk9_5 : XB := [(0, [(0, .aload_n 0, 0, 0, 0), (1, .invokespecial 3, 999, 0, 0), (4, .aload_n 0, 0, 0, 0), (5, .aload_n 1, 0, 0, 0), (6, .putfield 9, 9, 58, 0), (9, .aload_n 0, 0, 0, 0), (10, .iconst 0, 0, 0, 0), (11, .newarray .char, 104, 0, 0), (13, .putfield 15, 9, 2, 0), (16, .return_, 0, 0, 0)], 17)]
def xk9_6 : XB := []
def xk9_7 : XB := []
def xk9_8 : XB := []
def xk9_9 : XB := []
def xk9_10 : XB := []
def xk9_11 : XB := []
def xk9_12 : XB := []
def xk9_13 : XB := []
def xk9_14 : XB := [(0, [(0, .aload_n 0, 0, 0, 0), (1, .getfield 29, 9, 16, 0), (4, .aload_n 0, 0, 0, 0), (5, .getfield 25, 9, 8, 0), (8, .if_icmp .ge 15, 0, 0, 0), (11, .aload_n 0, 0, 0, 0), (12, .getfield 15, 9, 2, 0), (15, .aload_n 0, 0, 0, 0), (16, .getfield 29, 9, 16, 0), (19, .caload, 0, 0, 0), (20, .goto 4, 0, 0, 0)], 23),
  (23, [(23, .iconst (-1), 0, 0, 0)], 24),
  (24, [(24, .ireturn, 0, 0, 0)], 25)]
def xk9_15 : XB := []
def xk9_16 : XB := [(0, [(0, .iload_n 1, 0, 0, 0), (1, .iconst (-1), 0, 0, 0), (2, .if_icmp .ne 7, 0, 0, 0), (5, .iconst 0, 0, 0, 0), (6, .goto 14, 0, 0, 0)], 9),
  (9, [(9, .aload_n 0, 0, 0, 0), (10, .getfield 9, 9, 58, 0), (13, .getfield 93, 2, 42, 0), (16, .iload_n 1, 0, 0, 0), (17, .iaload, 0, 0, 0), (18, .iconst 1, 0, 0, 0), (19, .iadd, 0, 0, 0)], 20),
  (20, [(20, .istore_n 2, 0, 0, 0), (21, .iconst 0, 0, 0, 0), (22, .istore_n 3, 0, 0, 0)], 23),
  (23, [(23, .iload_n 3, 0, 0, 0), (24, .iload_n 2, 0, 0, 0), (25, .if_icmp .ge 28, 0, 0, 0), (28, .aload_n 0, 0, 0, 0), (29, .invokevirtual 60, 9, 896, 0), (32, .bipush 46, 0, 0, 0), (34, .if_icmp .ne 19, 0, 0, 0), (37, .aload_n 0, 0, 0, 0), (38, .dup, 0, 0, 0), (39, .getfield 29, 9, 16, 0), (42, .iconst 1, 0, 0, 0), (43, .iadd, 0, 0, 0), (44, .putfield 29, 9, 16, 0), (47, .iinc 3 1, 0, 0, 0), (50, .goto (-27), 0, 0, 0)], 53),
  (53, [(53, .iload_n 1, 0, 0, 0), (54, .iconst (-1), 0, 0, 0), (55, .if_icmp .eq 17, 0, 0, 0), (58, .iload_n 3, 0, 0, 0), (59, .ifCond .ne 13, 0, 0, 0), (62, .aload_n 0, 0, 0, 0), (63, .aload_n 0, 0, 0, 0), (64, .getfield 29, 9, 16, 0), (67, .invokevirtual 64, 9, 129, 0), (70, .iload_n 1, 0, 0, 0), (71, .ireturn, 0, 0, 0)], 72),
  (72, [(72, .aload_n 0, 0, 0, 0), (73, .getfield 29, 9, 16, 0), (76, .istore 4, 0, 0, 0), (78, .aload_n 0, 0, 0, 0), (79, .aload_n 0, 0, 0, 0), (80, .iload_n 1, 0, 0, 0), (81, .iload_n 3, 0, 0, 0), (82, .iconst 1, 0, 0, 0), (83, .isub, 0, 0, 0), (84, .invokevirtual 97, 9, 2, 0), (87, .invokevirtual 74, 9, 1281, 0), (90, .istore 5, 0, 0, 0), (92, .iload 5, 0, 0, 0), (94, .iconst (-1), 0, 0, 0), (95, .if_icmp .ne 5, 0, 0, 0), (98, .iload_n 1, 0, 0, 0), (99, .ireturn, 0, 0, 0)], 100),
  (100, [(100, .aload_n 0, 0, 0, 0), (101, .getfield 9, 9, 58, 0), (104, .iload 5, 0, 0, 0), (106, .invokevirtual 77, 2, 1025, 0), (109, .bipush 9, 0, 0, 0), (111, .if_icmp .ne 14, 0, 0, 0), (114, .aload_n 0, 0, 0, 0), (115, .iload 5, 0, 0, 0), (117, .iload 4, 0, 0, 0), (119, .iload_n 3, 0, 0, 0), (120, .invokevirtual 100, 9, 579, 0), (123, .iload_n 1, 0, 0, 0), (124, .ireturn, 0, 0, 0)], 125),
  (125, [(125, .aload_n 0, 0, 0, 0), (126, .iload 5, 0, 0, 0), (128, .invokevirtual 84, 9, 1473, 0), (131, .aload_n 0, 0, 0, 0), (132, .getfield 32, 9, 24, 0), (135, .iconst (-1), 0, 0, 0), (136, .if_icmp .ne 20, 0, 0, 0), (139, .aload_n 0, 0, 0, 0), (140, .invokevirtual 60, 9, 896, 0), (143, .bipush 10, 0, 0, 0), (145, .if_icmp .eq 11, 0, 0, 0), (148, .aload_n 0, 0, 0, 0), (149, .aload_n 0, 0, 0, 0), (150, .getfield 29, 9, 16, 0), (153, .invokevirtual 64, 9, 129, 0)], 156),
  (156, [(156, .aload_n 0, 0, 0, 0), (157, .dup, 0, 0, 0), (158, .getfield 29, 9, 16, 0), (161, .iconst 1, 0, 0, 0), (162, .iadd, 0, 0, 0), (163, .putfield 29, 9, 16, 0), (166, .iload 5, 0, 0, 0), (168, .ireturn, 0, 0, 0)], 169)]
def xk9_17 : XB := [(0, [(0, .iconst (-1), 0, 0, 0), (1, .istore_n 1, 0, 0, 0), (2, .iconst 0, 0, 0, 0), (3, .istore_n 2, 0, 0, 0)], 4),
  (4, [(4, .iload_n 2, 0, 0, 0), (5, .aload_n 0, 0, 0, 0), (6, .getfield 25, 9, 8, 0), (9, .if_icmp .gt 38, 0, 0, 0), (12, .aload_n 0, 0, 0, 0), (13, .getfield 32, 9, 24, 0), (16, .iconst (-1), 0, 0, 0), (17, .if_icmp .ne 30, 0, 0, 0), (20, .iload_n 2, 0, 0, 0), (21, .ifCond .eq 14, 0, 0, 0), (24, .aload_n 0, 0, 0, 0), (25, .getfield 29, 9, 16, 0), (28, .aload_n 0, 0, 0, 0), (29, .getfield 25, 9, 8, 0), (32, .if_icmp .ge 15, 0, 0, 0)], 35),
  (35, [(35, .aload_n 0, 0, 0, 0), (36, .iload_n 1, 0, 0, 0), (37, .invokevirtual 90, 9, 1025, 0), (40, .istore_n 1, 0, 0, 0), (41, .iinc 2 1, 0, 0, 0), (44, .goto (-40), 0, 0, 0)], 47),
  (47, [(47, .return_, 0, 0, 0)], 48)]
def xk9_18 : XB := []
def xk9_19 : XB := [(0, [(0, .aload_n 0, 0, 0, 0), (1, .invokevirtual 57, 9, 1600, 0), (4, .aload_n 0, 0, 0, 0), (5, .invokevirtual 60, 9, 896, 0), (8, .bipush 40, 0, 0, 0), (10, .if_icmp .eq 11, 0, 0, 0), (13, .aload_n 0, 0, 0, 0), (14, .aload_n 0, 0, 0, 0), (15, .getfield 29, 9, 16, 0), (18, .invokevirtual 64, 9, 129, 0)], 21),
  (21, [(21, .iconst (-1), 0, 0, 0), (22, .istore_n 1, 0, 0, 0), (23, .iconst 0, 0, 0, 0), (24, .istore_n 2, 0, 0, 0)], 25),
  (25, [(25, .iload_n 2, 0, 0, 0), (26, .aload_n 0, 0, 0, 0), (27, .getfield 25, 9, 8, 0), (30, .if_icmp .gt 35, 0, 0, 0), (33, .aload_n 0, 0, 0, 0), (34, .getfield 32, 9, 24, 0), (37, .iconst (-1), 0, 0, 0), (38, .if_icmp .ne 27, 0, 0, 0), (41, .aload_n 0, 0, 0, 0), (42, .aload_n 0, 0, 0, 0), (43, .iload_n 1, 0, 0, 0), (44, .invokevirtual 67, 9, 1153, 0), (47, .invokevirtual 71, 9, 65, 0), (50, .istore_n 1, 0, 0, 0), (51, .iload_n 1, 0, 0, 0), (52, .iconst (-1), 0, 0, 0), (53, .if_icmp .ne 6, 0, 0, 0), (56, .goto 9, 0, 0, 0)], 59),
  (59, [(59, .iinc 2 1, 0, 0, 0), (62, .goto (-37), 0, 0, 0)], 65),
  (65, [(65, .aload_n 0, 0, 0, 0), (66, .invokevirtual 57, 9, 1600, 0), (69, .aload_n 0, 0, 0, 0), (70, .getfield 29, 9, 16, 0), (73, .aload_n 0, 0, 0, 0), (74, .getfield 25, 9, 8, 0), (77, .if_icmp .ge 11, 0, 0, 0), (80, .aload_n 0, 0, 0, 0), (81, .aload_n 0, 0, 0, 0), (82, .getfield 29, 9, 16, 0), (85, .invokevirtual 64, 9, 129, 0)], 88),
  (88, [(88, .return_, 0, 0, 0)], 89)]
def xk9_20 : XB := [(0, [(0, .aload_n 0, 0, 0, 0), (1, .getfield 29, 9, 16, 0), (4, .istore_n 2, 0, 0, 0)], 5),
  (5, [(5, .aload_n 0, 0, 0, 0), (6, .getfield 29, 9, 16, 0), (9, .aload_n 0, 0, 0, 0), (10, .getfield 25, 9, 8, 0), (13, .if_icmp .ge 44, 0, 0, 0), (16, .aload_n 0, 0, 0, 0), (17, .getfield 15, 9, 2, 0), (20, .aload_n 0, 0, 0, 0), (21, .getfield 29, 9, 16, 0), (24, .caload, 0, 0, 0), (25, .bipush 97, 0, 0, 0), (27, .if_icmp .lt 30, 0, 0, 0), (30, .aload_n 0, 0, 0, 0), (31, .getfield 15, 9, 2, 0), (34, .aload_n 0, 0, 0, 0), (35, .getfield 29, 9, 16, 0), (38, .caload, 0, 0, 0), (39, .bipush 122, 0, 0, 0), (41, .if_icmp .gt 16, 0, 0, 0), (44, .aload_n 0, 0, 0, 0), (45, .dup, 0, 0, 0), (46, .getfield 29, 9, 16, 0), (49, .iconst 1, 0, 0, 0), (50, .iadd, 0, 0, 0), (51, .putfield 29, 9, 16, 0), (54, .goto (-49), 0, 0, 0)], 57),
  (57, [(57, .aload_n 0, 0, 0, 0), (58, .getfield 29, 9, 16, 0), (61, .iload_n 2, 0, 0, 0), (62, .if_icmp .ne 13, 0, 0, 0), (65, .aload_n 0, 0, 0, 0), (66, .aload_n 0, 0, 0, 0), (67, .getfield 29, 9, 16, 0), (70, .invokevirtual 64, 9, 129, 0), (73, .iconst (-1), 0, 0, 0), (74, .ireturn, 0, 0, 0)], 75),
  (75, [(75, .aload_n 0, 0, 0, 0), (76, .iload_n 2, 0, 0, 0), (77, .aload_n 0, 0, 0, 0), (78, .getfield 29, 9, 16, 0), (81, .invokevirtual 104, 9, 706, 0), (84, .istore_n 3, 0, 0, 0), (85, .aload_n 0, 0, 0, 0), (86, .iload_n 3, 0, 0, 0), (87, .iload_n 1, 0, 0, 0), (88, .invokevirtual 107, 9, 834, 0), (91, .ifCond .eq 16, 0, 0, 0), (94, .aload_n 0, 0, 0, 0), (95, .getfield 9, 9, 58, 0), (98, .getfield 111, 2, 0, 0), (101, .sipush 200, 0, 0, 0), (104, .if_icmp .lt 10, 0, 0, 0)], 107),
  (107, [(107, .aload_n 0, 0, 0, 0), (108, .iload_n 2, 0, 0, 0), (109, .invokevirtual 64, 9, 129, 0), (112, .iconst (-1), 0, 0, 0), (113, .ireturn, 0, 0, 0)], 114),
  (114, [(114, .aload_n 0, 0, 0, 0), (115, .getfield 9, 9, 58, 0), (118, .iload_n 3, 0, 0, 0), (119, .iload_n 1, 0, 0, 0), (120, .invokevirtual 114, 2, 2, 0), (123, .ireturn, 0, 0, 0)], 124)]
def xk9_21 : XB := []
def xk9_22 : XB := []
def xk9_23 : XB := []
def xk9_24 : XB := []
def xk9_25 : XB := [(0, [(0, .aload_n 0, 0, 0, 0), (1, .getfield 29, 9, 16, 0), (4, .aload_n 0, 0, 0, 0), (5, .getfield 25, 9, 8, 0), (8, .if_icmp .ge 44, 0, 0, 0), (11, .aload_n 0, 0, 0, 0), (12, .getfield 15, 9, 2, 0), (15, .aload_n 0, 0, 0, 0), (16, .getfield 29, 9, 16, 0), (19, .caload, 0, 0, 0), (20, .bipush 32, 0, 0, 0), (22, .if_icmp .eq 17, 0, 0, 0), (25, .aload_n 0, 0, 0, 0), (26, .getfield 15, 9, 2, 0), (29, .aload_n 0, 0, 0, 0), (30, .getfield 29, 9, 16, 0), (33, .caload, 0, 0, 0), (34, .bipush 10, 0, 0, 0), (36, .if_icmp .ne 16, 0, 0, 0)], 39),
  (39, [(39, .aload_n 0, 0, 0, 0), (40, .dup, 0, 0, 0), (41, .getfield 29, 9, 16, 0), (44, .iconst 1, 0, 0, 0), (45, .iadd, 0, 0, 0), (46, .putfield 29, 9, 16, 0), (49, .goto (-49), 0, 0, 0)], 52),
  (52, [(52, .return_, 0, 0, 0)], 53)]
def xk9_26 : XB := []
def xk9_27 : XB := []
def xk9_28 : XB := []
def xk9 : List XB := [xk9_0, xk9_1, xk9_2, xk9_3, xk9_4, xk9_5, xk9_6, xk9_7, xk9_8, xk9_9, xk9_10, xk9_11, xk9_12, xk9_13, xk9_14, xk9_15, xk9_16, xk9_17, xk9_18, xk9_19, xk9_20, xk9_21, xk9_22, xk9_23, xk9_24, xk9_25, xk9_26, xk9_27, xk9_28]
theorem xr9_0 : xRowOk (9, xmn 9 0, prog_11_method_10_code, 5, (some .int), xk9_0) = true := by decide +kernel
theorem xr9_1 : xRowOk (9, xmn 9 1, prog_11_method_7_code, 4, (some .int), xk9_1) = true := by decide +kernel
theorem xr9_2 : xRowOk (9, xmn 9 2, prog_11_method_3_code, 2, none, xk9_2) = true := by decide +kernel
theorem xr9_3 : xRowOk (9, xmn 9 3, prog_11_method_2_code, 5, (some .int), xk9_3) = true := by decide +kernel
theorem xr9_4 : xRowOk (9, xmn 9 4, prog_11_method_17_code, 1, (some .long), xk9_4) = true := by decide +kernel
theorem xr9_5 : xRowOk (9, xmn 9 5, prog_11_method_1_code, 2, none, xk9_5) = true := by decide +kernel
theorem xr9_6 : xRowOk (9, xmn 9 6, prog_11_method_29_code, 5, (some .boolean), xk9_6) = true := by decide +kernel
theorem xr9_7 : xRowOk (9, xmn 9 7, prog_11_method_19_code, 1, (some .boolean), xk9_7) = true := by decide +kernel
theorem xr9_8 : xRowOk (9, xmn 9 8, prog_11_method_26_code, 1, none, xk9_8) = true := by decide +kernel
theorem xr9_9 : xRowOk (9, xmn 9 9, prog_11_method_28_code, 6, none, xk9_9) = true := by decide +kernel
theorem xr9_10 : xRowOk (9, xmn 9 10, prog_11_method_25_code, 6, none, xk9_10) = true := by decide +kernel
theorem xr9_11 : xRowOk (9, xmn 9 11, prog_11_method_12_code, 7, (some .int), xk9_11) = true := by decide +kernel
theorem xr9_12 : xRowOk (9, xmn 9 12, prog_11_method_16_code, 1, (some .long), xk9_12) = true := by decide +kernel
theorem xr9_13 : xRowOk (9, xmn 9 13, prog_11_method_13_code, 3, (some .boolean), xk9_13) = true := by decide +kernel
theorem xr9_14 : xRowOk (9, xmn 9 14, prog_11_method_4_code, 1, (some .int), xk9_14) = true := by decide +kernel
theorem xr9_15 : xRowOk (9, xmn 9 15, prog_11_method_22_code, 1, none, xk9_15) = true := by decide +kernel
theorem xr9_16 : xRowOk (9, xmn 9 16, prog_11_method_9_code, 6, (some .int), xk9_16) = true := by decide +kernel
theorem xr9_17 : xRowOk (9, xmn 9 17, prog_11_method_8_code, 3, none, xk9_17) = true := by decide +kernel
theorem xr9_18 : xRowOk (9, xmn 9 18, prog_11_method_6_code, 5, (some .int), xk9_18) = true := by decide +kernel
theorem xr9_19 : xRowOk (9, xmn 9 19, prog_11_method_5_code, 3, none, xk9_19) = true := by decide +kernel
theorem xr9_20 : xRowOk (9, xmn 9 20, prog_11_method_11_code, 4, (some .int), xk9_20) = true := by decide +kernel
theorem xr9_21 : xRowOk (9, xmn 9 21, prog_11_method_15_code, 11, none, xk9_21) = true := by decide +kernel
theorem xr9_22 : xRowOk (9, xmn 9 22, prog_11_method_20_code, 4, none, xk9_22) = true := by decide +kernel
theorem xr9_23 : xRowOk (9, xmn 9 23, prog_11_method_14_code, 8, none, xk9_23) = true := by decide +kernel
theorem xr9_24 : xRowOk (9, xmn 9 24, prog_11_method_24_code, 2, (some .int), xk9_24) = true := by decide +kernel
theorem xr9_25 : xRowOk (9, xmn 9 25, prog_11_method_23_code, 1, none, xk9_25) = true := by decide +kernel
theorem xr9_26 : xRowOk (9, xmn 9 26, prog_11_method_21_code, 1, none, xk9_26) = true := by decide +kernel
theorem xr9_27 : xRowOk (9, xmn 9 27, prog_11_method_27_code, 4, none, xk9_27) = true := by decide +kernel
theorem xr9_28 : xRowOk (9, xmn 9 28, prog_11_method_18_code, 5, (some .long), xk9_28) = true := by decide +kernel
