/-! the code of class 10, in stretches -/
def xk10_0 : XB := []
def xk10_1 : XB := [(0, [(0, .aload_n 0, 0, 0, 0), (1, .getfield 70, 10, 8, 0), (4, .sipush 400, 0, 0, 0), (7, .if_icmp .ge 23, 0, 0, 0), (10, .aload_n 0, 0, 0, 0), (11, .getfield 11, 10, 2, 0), (14, .aload_n 0, 0, 0, 0), (15, .getfield 70, 10, 8, 0), (18, .iload_n 1, 0, 0, 0), (19, .iastore, 0, 0, 0), (20, .aload_n 0, 0, 0, 0), (21, .dup, 0, 0, 0), (22, .getfield 70, 10, 8, 0), (25, .iconst 1, 0, 0, 0), (26, .iadd, 0, 0, 0), (27, .putfield 70, 10, 8, 0)], 30),
  (30, [(30, .return_, 0, 0, 0)], 31)]
def xk10_2 : XB := []
def xk10_3 : XB := [(0, [(0, .aload_n 0, 0, 0, 0), (1, .getfield 43, 10, 83, 0), (4, .ifCond .ne 15, 0, 0, 0), (7, .aload_n 0, 0, 0, 0), (8, .iload_n 1, 0, 0, 0), (9, .invokevirtual 132, 10, 641, 0), (12, .ifCond .eq 7, 0, 0, 0), (15, .iload_n 2, 0, 0, 0), (16, .ifCond .ge 5, 0, 0, 0)], 19),
  (19, [(19, .iconst (-1), 0, 0, 0), (20, .ireturn, 0, 0, 0)], 21),
  (21, [(21, .iload_n 2, 0, 0, 0), (22, .istore_n 3, 0, 0, 0), (23, .iconst 0, 0, 0, 0), (24, .istore 4, 0, 0, 0)], 26),
  (26, [(26, .iload 4, 0, 0, 0), (28, .aload_n 0, 0, 0, 0), (29, .getfield 28, 10, 58, 0), (32, .iload_n 1, 0, 0, 0), (33, .iaload, 0, 0, 0), (34, .if_icmp .ge 57, 0, 0, 0), (37, .aload_n 0, 0, 0, 0), (38, .getfield 25, 10, 50, 0), (41, .iload_n 1, 0, 0, 0), (42, .bipush 8, 0, 0, 0), (44, .imul, 0, 0, 0), (45, .iload 4, 0, 0, 0), (47, .iadd, 0, 0, 0), (48, .iaload, 0, 0, 0), (49, .istore 5, 0, 0, 0), (51, .iload_n 3, 0, 0, 0), (52, .aload_n 0, 0, 0, 0), (53, .getfield 18, 10, 26, 0), (56, .iload 5, 0, 0, 0), (58, .iaload, 0, 0, 0), (59, .if_icmp .ge 16, 0, 0, 0), (62, .aload_n 0, 0, 0, 0), (63, .getfield 15, 10, 18, 0), (66, .iload 5, 0, 0, 0), (68, .bipush 24, 0, 0, 0), (70, .imul, 0, 0, 0), (71, .iload_n 3, 0, 0, 0), (72, .iadd, 0, 0, 0), (73, .iaload, 0, 0, 0), (74, .ireturn, 0, 0, 0)], 75),
  (75, [(75, .iload_n 3, 0, 0, 0), (76, .aload_n 0, 0, 0, 0), (77, .getfield 18, 10, 26, 0), (80, .iload 5, 0, 0, 0), (82, .iaload, 0, 0, 0), (83, .isub, 0, 0, 0), (84, .istore_n 3, 0, 0, 0), (85, .iinc 4 1, 0, 0, 0), (88, .goto (-62), 0, 0, 0)], 91),
  (91, [(91, .iconst (-1), 0, 0, 0), (92, .ireturn, 0, 0, 0)], 93)]
def xk10_4 : XB := []
def xk10_5 : XB := [(0, [(0, .aload_n 0, 0, 0, 0), (1, .getfield 43, 10, 83, 0), (4, .ifCond .eq 6, 0, 0, 0), (7, .bipush (-3), 0, 0, 0), (9, .ireturn, 0, 0, 0)], 10),
  (10, [(10, .aload_n 0, 0, 0, 0), (11, .iload_n 1, 0, 0, 0), (12, .invokevirtual 132, 10, 641, 0), (15, .ifCond .ne 6, 0, 0, 0), (18, .bipush (-2), 0, 0, 0), (20, .ireturn, 0, 0, 0)], 21),
  (21, [(21, .aload_n 0, 0, 0, 0), (22, .getfield 31, 10, 66, 0), (25, .iload_n 1, 0, 0, 0), (26, .baload, 0, 0, 0), (27, .ifCond .eq 6, 0, 0, 0), (30, .bipush (-4), 0, 0, 0), (32, .ireturn, 0, 0, 0)], 33),
  (33, [(33, .aload_n 0, 0, 0, 0), (34, .getfield 70, 10, 8, 0), (37, .iconst 2, 0, 0, 0), (38, .iadd, 0, 0, 0), (39, .sipush 400, 0, 0, 0), (42, .if_icmp .le 5, 0, 0, 0), (45, .iconst (-1), 0, 0, 0), (46, .ireturn, 0, 0, 0)], 47),
  (47, [(47, .aload_n 0, 0, 0, 0), (48, .iconst 4, 0, 0, 0), (49, .iload_n 1, 0, 0, 0), (50, .invokevirtual 77, 10, 962, 0), (53, .iconst 0, 0, 0, 0), (54, .ireturn, 0, 0, 0)], 55)]
def xk10_6 : XB := [(0, [(0, .iconst 0, 0, 0, 0), (1, .istore_n 1, 0, 0, 0), (2, .iconst 0, 0, 0, 0), (3, .istore_n 2, 0, 0, 0)], 4),
  (4, [(4, .iload_n 2, 0, 0, 0), (5, .aload_n 0, 0, 0, 0), (6, .getfield 67, 10, 40, 0), (9, .if_icmp .ge 36, 0, 0, 0), (12, .aload_n 0, 0, 0, 0), (13, .getfield 21, 10, 34, 0), (16, .iload_n 2, 0, 0, 0), (17, .baload, 0, 0, 0), (18, .ifCond .eq 21, 0, 0, 0), (21, .aload_n 0, 0, 0, 0), (22, .iload_n 2, 0, 0, 0), (23, .invokevirtual 128, 10, 705, 0), (26, .ifCond .ne 13, 0, 0, 0), (29, .aload_n 0, 0, 0, 0), (30, .getfield 21, 10, 34, 0), (33, .iload_n 2, 0, 0, 0), (34, .iconst 0, 0, 0, 0), (35, .bastore, 0, 0, 0), (36, .iinc 1 1, 0, 0, 0)], 39),
  (39, [(39, .iinc 2 1, 0, 0, 0), (42, .goto (-38), 0, 0, 0)], 45),
  (45, [(45, .iload_n 1, 0, 0, 0), (46, .ireturn, 0, 0, 0)], 47)]
def xk10_7 : XB := []
def xk10_8 : XB := []
def xk10_9 : XB := [(0, [(0, .aload_n 0, 0, 0, 0), (1, .invokespecial 3, 999, 0, 0), (4, .aload_n 0, 0, 0, 0), (5, .sipush 400, 0, 0, 0), (8, .newarray .int, 100, 0, 0), (10, .putfield 11, 10, 2, 0), (13, .aload_n 0, 0, 0, 0), (14, .sipush 576, 0, 0, 0), (17, .newarray .int, 100, 0, 0), (19, .putfield 15, 10, 18, 0), (22, .aload_n 0, 0, 0, 0), (23, .bipush 24, 0, 0, 0), (25, .newarray .int, 100, 0, 0), (27, .putfield 18, 10, 26, 0), (30, .aload_n 0, 0, 0, 0), (31, .bipush 24, 0, 0, 0), (33, .newarray .boolean, 103, 0, 0), (35, .putfield 21, 10, 34, 0), (38, .aload_n 0, 0, 0, 0), (39, .bipush 104, 0, 0, 0), (41, .newarray .int, 100, 0, 0), (43, .putfield 25, 10, 50, 0), (46, .aload_n 0, 0, 0, 0), (47, .bipush 13, 0, 0, 0), (49, .newarray .int, 100, 0, 0), (51, .putfield 28, 10, 58, 0), (54, .aload_n 0, 0, 0, 0), (55, .bipush 13, 0, 0, 0), (57, .newarray .boolean, 103, 0, 0), (59, .putfield 31, 10, 66, 0), (62, .aload_n 0, 0, 0, 0), (63, .bipush 24, 0, 0, 0), (65, .newarray .int, 100, 0, 0), (67, .putfield 34, 10, 98, 0), (70, .return_, 0, 0, 0)], 71)]
def xk10_10 : XB := [(0, [(0, .iload_n 1, 0, 0, 0), (1, .ifCond .lt 15, 0, 0, 0), (4, .iload_n 1, 0, 0, 0), (5, .aload_n 0, 0, 0, 0), (6, .getfield 47, 10, 72, 0), (9, .if_icmp .ge 7, 0, 0, 0), (12, .iconst 1, 0, 0, 0), (13, .goto 4, 0, 0, 0)], 16),
  (16, [(16, .iconst 0, 0, 0, 0)], 17),
  (17, [(17, .ireturn, 0, 0, 0)], 18)]
def xk10_11 : XB := []
def xk10_12 : XB := [(0, [(0, .aload_n 1, 0, 0, 0), (1, .getfield 37, 0, 0, 0), (4, .iconst (-1), 0, 0, 0), (5, .if_icmp .eq 10, 0, 0, 0), (8, .aload_n 0, 0, 0, 0), (9, .getfield 43, 10, 83, 0), (12, .ifCond .eq 6, 0, 0, 0)], 15),
  (15, [(15, .bipush (-3), 0, 0, 0), (17, .ireturn, 0, 0, 0)], 18),
  (18, [(18, .aload_n 0, 0, 0, 0), (19, .getfield 28, 10, 58, 0), (22, .aload_n 0, 0, 0, 0), (23, .getfield 47, 10, 72, 0), (26, .iaload, 0, 0, 0), (27, .istore_n 2, 0, 0, 0), (28, .iconst 0, 0, 0, 0), (29, .istore_n 3, 0, 0, 0), (30, .iconst 1, 0, 0, 0), (31, .istore 4, 0, 0, 0), (33, .iconst 0, 0, 0, 0), (34, .istore 5, 0, 0, 0)], 36),
  (36, [(36, .iload 5, 0, 0, 0), (38, .aload_n 1, 0, 0, 0), (39, .getfield 50, 0, 90, 0), (42, .getfield 54, 7, 16, 0), (45, .if_icmp .ge 74, 0, 0, 0), (48, .aload_n 0, 0, 0, 0), (49, .aload_n 1, 0, 0, 0), (50, .iload 5, 0, 0, 0), (52, .invokevirtual 59, 10, 514, 0), (55, .istore 6, 0, 0, 0), (57, .iload 6, 0, 0, 0), (59, .ifCond .le 54, 0, 0, 0), (62, .aload_n 0, 0, 0, 0), (63, .iload 6, 0, 0, 0), (65, .invokevirtual 63, 10, 1281, 0), (68, .iconst (-1), 0, 0, 0), (69, .if_icmp .eq 7, 0, 0, 0), (72, .iconst 1, 0, 0, 0), (73, .goto 4, 0, 0, 0)], 76),
  (76, [(76, .iconst 0, 0, 0, 0)], 77),
  (77, [(77, .istore 7, 0, 0, 0), (79, .iinc 2 1, 0, 0, 0), (82, .iload_n 3, 0, 0, 0), (83, .iload 7, 0, 0, 0), (85, .ifCond .eq 7, 0, 0, 0), (88, .iconst 0, 0, 0, 0), (89, .goto 4, 0, 0, 0)], 92),
  (92, [(92, .iconst 1, 0, 0, 0)], 93),
  (93, [(93, .iadd, 0, 0, 0), (94, .istore_n 3, 0, 0, 0), (95, .iload 4, 0, 0, 0), (97, .iload 7, 0, 0, 0), (99, .ifCond .eq 7, 0, 0, 0), (102, .iconst 2, 0, 0, 0), (103, .goto 7, 0, 0, 0)], 106),
  (106, [(106, .iconst 2, 0, 0, 0), (107, .iload 6, 0, 0, 0), (109, .iadd, 0, 0, 0)], 110),
  (110, [(110, .iadd, 0, 0, 0), (111, .istore 4, 0, 0, 0)], 113),
  (113, [(113, .iinc 5 1, 0, 0, 0), (116, .goto (-80), 0, 0, 0)], 119),
  (119, [(119, .iload_n 2, 0, 0, 0), (120, .bipush 8, 0, 0, 0), (122, .if_icmp .gt 27, 0, 0, 0), (125, .aload_n 0, 0, 0, 0), (126, .getfield 67, 10, 40, 0), (129, .iload_n 3, 0, 0, 0), (130, .iadd, 0, 0, 0), (131, .bipush 24, 0, 0, 0), (133, .if_icmp .gt 16, 0, 0, 0), (136, .aload_n 0, 0, 0, 0), (137, .getfield 47, 10, 72, 0), (140, .bipush 12, 0, 0, 0), (142, .if_icmp .ge 7, 0, 0, 0), (145, .iconst 1, 0, 0, 0), (146, .goto 4, 0, 0, 0)], 149),
  (149, [(149, .iconst 0, 0, 0, 0)], 150),
  (150, [(150, .istore 5, 0, 0, 0), (152, .iload 5, 0, 0, 0), (154, .ifCond .eq 16, 0, 0, 0), (157, .aload_n 0, 0, 0, 0), (158, .getfield 70, 10, 8, 0), (161, .iload 4, 0, 0, 0), (163, .iadd, 0, 0, 0), (164, .sipush 400, 0, 0, 0), (167, .if_icmp .le 5, 0, 0, 0)], 170),
  (170, [(170, .iconst (-1), 0, 0, 0), (171, .ireturn, 0, 0, 0)], 172),
  (172, [(172, .iconst 0, 0, 0, 0), (173, .istore 6, 0, 0, 0)], 175),
  (175, [(175, .iload 6, 0, 0, 0), (177, .aload_n 1, 0, 0, 0), (178, .getfield 50, 0, 90, 0), (181, .getfield 54, 7, 16, 0), (184, .if_icmp .ge 29, 0, 0, 0), (187, .aload_n 0, 0, 0, 0), (188, .aload_n 1, 0, 0, 0), (189, .iload 6, 0, 0, 0), (191, .invokevirtual 59, 10, 514, 0), (194, .istore 7, 0, 0, 0), (196, .iload 7, 0, 0, 0), (198, .ifCond .le 9, 0, 0, 0), (201, .aload_n 0, 0, 0, 0), (202, .iload 7, 0, 0, 0), (204, .invokevirtual 73, 10, 1025, 0)], 207),
  (207, [(207, .iinc 6 1, 0, 0, 0), (210, .goto (-35), 0, 0, 0)], 213),
  (213, [(213, .aload_n 0, 0, 0, 0), (214, .iconst 3, 0, 0, 0), (215, .iconst (-1), 0, 0, 0), (216, .invokevirtual 77, 10, 962, 0), (219, .aload_n 0, 0, 0, 0), (220, .getfield 47, 10, 72, 0), (223, .iconst 1, 0, 0, 0), (224, .isub, 0, 0, 0), (225, .ireturn, 0, 0, 0)], 226)]
def xk10_13 : XB := [(0, [(0, .aload_n 0, 0, 0, 0), (1, .getfield 43, 10, 83, 0), (4, .ifCond .eq 6, 0, 0, 0), (7, .bipush (-3), 0, 0, 0), (9, .ireturn, 0, 0, 0)], 10),
  (10, [(10, .iload_n 1, 0, 0, 0), (11, .ifCond .lt 11, 0, 0, 0), (14, .iload_n 1, 0, 0, 0), (15, .aload_n 0, 0, 0, 0), (16, .getfield 70, 10, 8, 0), (19, .if_icmp .le 6, 0, 0, 0)], 22),
  (22, [(22, .bipush (-2), 0, 0, 0), (24, .ireturn, 0, 0, 0)], 25),
  (25, [(25, .aload_n 0, 0, 0, 0), (26, .getfield 135, 10, 88, 0), (29, .bipush 16, 0, 0, 0), (31, .if_icmp .lt 5, 0, 0, 0), (34, .iconst (-1), 0, 0, 0), (35, .ireturn, 0, 0, 0)], 36),
  (36, [(36, .aload_n 0, 0, 0, 0), (37, .dup, 0, 0, 0), (38, .getfield 135, 10, 88, 0), (41, .iconst 1, 0, 0, 0), (42, .iadd, 0, 0, 0), (43, .putfield 135, 10, 88, 0), (46, .aload_n 0, 0, 0, 0), (47, .iconst 1, 0, 0, 0), (48, .putfield 43, 10, 83, 0), (51, .aload_n 0, 0, 0, 0), (52, .iload_n 1, 0, 0, 0), (53, .putfield 70, 10, 8, 0), (56, .iconst 0, 0, 0, 0), (57, .ireturn, 0, 0, 0)], 58)]
def xk10_14 : XB := [(0, [(0, .aload_n 2, 0, 0, 0), (1, .getfield 37, 0, 0, 0), (4, .iconst (-1), 0, 0, 0), (5, .if_icmp .eq 10, 0, 0, 0), (8, .aload_n 0, 0, 0, 0), (9, .getfield 43, 10, 83, 0), (12, .ifCond .eq 6, 0, 0, 0)], 15),
  (15, [(15, .bipush (-3), 0, 0, 0), (17, .ireturn, 0, 0, 0)], 18),
  (18, [(18, .aload_n 0, 0, 0, 0), (19, .iload_n 1, 0, 0, 0), (20, .invokevirtual 132, 10, 641, 0), (23, .ifCond .ne 6, 0, 0, 0), (26, .bipush (-2), 0, 0, 0), (28, .ireturn, 0, 0, 0)], 29),
  (29, [(29, .iconst 0, 0, 0, 0), (30, .istore_n 3, 0, 0, 0), (31, .iconst 0, 0, 0, 0), (32, .istore 4, 0, 0, 0)], 34),
  (34, [(34, .iload 4, 0, 0, 0), (36, .sipush 192, 0, 0, 0), (39, .if_icmp .ge 87, 0, 0, 0), (42, .aload_n 0, 0, 0, 0), (43, .iload_n 1, 0, 0, 0), (44, .iload 4, 0, 0, 0), (46, .iconst 3, 0, 0, 0), (47, .iadd, 0, 0, 0), (48, .invokevirtual 138, 10, 194, 0), (51, .iconst (-1), 0, 0, 0), (52, .if_icmp .eq 74, 0, 0, 0), (55, .aload_n 0, 0, 0, 0), (56, .iload_n 1, 0, 0, 0), (57, .iload 4, 0, 0, 0), (59, .iconst 3, 0, 0, 0), (60, .iadd, 0, 0, 0), (61, .invokevirtual 138, 10, 194, 0), (64, .istore 5, 0, 0, 0), (66, .aload_n 2, 0, 0, 0), (67, .aload_n 0, 0, 0, 0), (68, .iload_n 1, 0, 0, 0), (69, .iload 4, 0, 0, 0), (71, .invokevirtual 138, 10, 194, 0), (74, .aload_n 0, 0, 0, 0), (75, .iload_n 1, 0, 0, 0), (76, .iload 4, 0, 0, 0), (78, .iconst 1, 0, 0, 0), (79, .iadd, 0, 0, 0), (80, .invokevirtual 138, 10, 194, 0), (83, .aload_n 0, 0, 0, 0), (84, .iload_n 1, 0, 0, 0), (85, .iload 4, 0, 0, 0), (87, .iconst 2, 0, 0, 0), (88, .iadd, 0, 0, 0), (89, .invokevirtual 138, 10, 194, 0), (92, .iload 5, 0, 0, 0), (94, .bipush 16, 0, 0, 0), (96, .irem, 0, 0, 0), (97, .iload 5, 0, 0, 0), (99, .bipush 16, 0, 0, 0), (101, .idiv, 0, 0, 0), (102, .invokevirtual 141, 0, 5, 0), (105, .istore 6, 0, 0, 0), (107, .iload_n 3, 0, 0, 0), (108, .iload 6, 0, 0, 0), (110, .ifCond .lt 7, 0, 0, 0), (113, .iconst 1, 0, 0, 0), (114, .goto 4, 0, 0, 0)], 117),
  (117, [(117, .iconst 0, 0, 0, 0)], 118),
  (118, [(118, .iadd, 0, 0, 0), (119, .istore_n 3, 0, 0, 0), (120, .iinc 4 4, 0, 0, 0), (123, .goto (-89), 0, 0, 0)], 126),
  (126, [(126, .iload_n 3, 0, 0, 0), (127, .ireturn, 0, 0, 0)], 128)]
def xk10_15 : XB := []
def xk10_16 : XB := []
def xk10_17 : XB := []
def xk10_18 : XB := [(0, [(0, .aload_n 0, 0, 0, 0), (1, .getfield 43, 10, 83, 0), (4, .ifCond .ne 6, 0, 0, 0), (7, .bipush (-3), 0, 0, 0), (9, .ireturn, 0, 0, 0)], 10),
  (10, [(10, .aload_n 0, 0, 0, 0), (11, .iconst 0, 0, 0, 0), (12, .putfield 43, 10, 83, 0), (15, .aload_n 0, 0, 0, 0), (16, .iconst 0, 0, 0, 0), (17, .putfield 67, 10, 40, 0), (20, .aload_n 0, 0, 0, 0), (21, .iconst 0, 0, 0, 0), (22, .putfield 47, 10, 72, 0), (25, .aload_n 0, 0, 0, 0), (26, .getfield 28, 10, 58, 0), (29, .iconst 0, 0, 0, 0), (30, .iconst 0, 0, 0, 0), (31, .iastore, 0, 0, 0), (32, .aload_n 0, 0, 0, 0), (33, .getfield 31, 10, 66, 0), (36, .iconst 0, 0, 0, 0), (37, .iconst 0, 0, 0, 0), (38, .bastore, 0, 0, 0), (39, .iconst 0, 0, 0, 0), (40, .istore_n 1, 0, 0, 0), (41, .iconst 0, 0, 0, 0), (42, .istore_n 2, 0, 0, 0), (43, .iconst 0, 0, 0, 0), (44, .istore_n 3, 0, 0, 0)], 45),
  (45, [(45, .iload_n 3, 0, 0, 0), (46, .sipush 400, 0, 0, 0), (49, .if_icmp .gt 22, 0, 0, 0), (52, .iload_n 2, 0, 0, 0), (53, .iconst (-1), 0, 0, 0), (54, .if_icmp .eq 17, 0, 0, 0), (57, .iload_n 2, 0, 0, 0), (58, .istore_n 1, 0, 0, 0), (59, .aload_n 0, 0, 0, 0), (60, .iload_n 1, 0, 0, 0), (61, .invokevirtual 106, 10, 1217, 0), (64, .istore_n 2, 0, 0, 0), (65, .iinc 3 1, 0, 0, 0), (68, .goto (-23), 0, 0, 0)], 71),
  (71, [(71, .aload_n 0, 0, 0, 0), (72, .iload_n 1, 0, 0, 0), (73, .putfield 70, 10, 8, 0), (76, .aload_n 0, 0, 0, 0), (77, .getfield 47, 10, 72, 0), (80, .ireturn, 0, 0, 0)], 81)]
def xk10_19 : XB := []
def xk10_20 : XB := []
def xk10_21 : XB := [(0, [(0, .aload_n 0, 0, 0, 0), (1, .getfield 43, 10, 83, 0), (4, .ifCond .eq 6, 0, 0, 0), (7, .bipush (-3), 0, 0, 0), (9, .ireturn, 0, 0, 0)], 10),
  (10, [(10, .aload_n 0, 0, 0, 0), (11, .getfield 70, 10, 8, 0), (14, .iconst 1, 0, 0, 0), (15, .iadd, 0, 0, 0), (16, .sipush 400, 0, 0, 0), (19, .if_icmp .le 5, 0, 0, 0), (22, .iconst (-1), 0, 0, 0), (23, .ireturn, 0, 0, 0)], 24),
  (24, [(24, .aload_n 0, 0, 0, 0), (25, .iconst 5, 0, 0, 0), (26, .invokevirtual 103, 10, 65, 0), (29, .aload_n 0, 0, 0, 0), (30, .invokevirtual 124, 10, 384, 0), (33, .ireturn, 0, 0, 0)], 34)]
def xk10 : List XB := [xk10_0, xk10_1, xk10_2, xk10_3, xk10_4, xk10_5, xk10_6, xk10_7, xk10_8, xk10_9, xk10_10, xk10_11, xk10_12, xk10_13, xk10_14, xk10_15, xk10_16, xk10_17, xk10_18, xk10_19, xk10_20, xk10_21]
theorem xr10_0 : xRowOk (10, xmn 10 0, prog_12_method_10_code, 5, none, xk10_0) = true := by decide +kernel
theorem xr10_1 : xRowOk (10, xmn 10 1, prog_12_method_7_code, 2, none, xk10_1) = true := by decide +kernel
theorem xr10_2 : xRowOk (10, xmn 10 2, prog_12_method_11_code, 3, none, xk10_2) = true := by decide +kernel
theorem xr10_3 : xRowOk (10, xmn 10 3, prog_12_method_21_code, 6, (some .int), xk10_3) = true := by decide +kernel
theorem xr10_4 : xRowOk (10, xmn 10 4, prog_12_method_12_code, 1, none, xk10_4) = true := by decide +kernel
theorem xr10_5 : xRowOk (10, xmn 10 5, prog_12_method_17_code, 2, (some .int), xk10_5) = true := by decide +kernel
theorem xr10_6 : xRowOk (10, xmn 10 6, prog_12_method_14_code, 3, (some .int), xk10_6) = true := by decide +kernel
theorem xr10_7 : xRowOk (10, xmn 10 7, prog_12_method_13_code, 2, none, xk10_7) = true := by decide +kernel
theorem xr10_8 : xRowOk (10, xmn 10 8, prog_12_method_3_code, 6, (some .int), xk10_8) = true := by decide +kernel
theorem xr10_9 : xRowOk (10, xmn 10 9, prog_12_method_1_code, 1, none, xk10_9) = true := by decide +kernel
theorem xr10_10 : xRowOk (10, xmn 10 10, prog_12_method_16_code, 2, (some .boolean), xk10_10) = true := by decide +kernel
theorem xr10_11 : xRowOk (10, xmn 10 11, prog_12_method_15_code, 5, (some .boolean), xk10_11) = true := by decide +kernel
theorem xr10_12 : xRowOk (10, xmn 10 12, prog_12_method_2_code, 8, (some .int), xk10_12) = true := by decide +kernel
theorem xr10_13 : xRowOk (10, xmn 10 13, prog_12_method_19_code, 2, (some .int), xk10_13) = true := by decide +kernel
theorem xr10_14 : xRowOk (10, xmn 10 14, prog_12_method_22_code, 7, (some .int), xk10_14) = true := by decide +kernel
theorem xr10_15 : xRowOk (10, xmn 10 15, prog_12_method_6_code, 4, none, xk10_15) = true := by decide +kernel
theorem xr10_16 : xRowOk (10, xmn 10 16, prog_12_method_5_code, 5, none, xk10_16) = true := by decide +kernel
theorem xr10_17 : xRowOk (10, xmn 10 17, prog_12_method_9_code, 2, (some .int), xk10_17) = true := by decide +kernel
theorem xr10_18 : xRowOk (10, xmn 10 18, prog_12_method_20_code, 4, (some .int), xk10_18) = true := by decide +kernel
theorem xr10_19 : xRowOk (10, xmn 10 19, prog_12_method_8_code, 3, (some .int), xk10_19) = true := by decide +kernel
theorem xr10_20 : xRowOk (10, xmn 10 20, prog_12_method_4_code, 5, (some .int), xk10_20) = true := by decide +kernel
theorem xr10_21 : xRowOk (10, xmn 10 21, prog_12_method_18_code, 1, (some .int), xk10_21) = true := by decide +kernel
