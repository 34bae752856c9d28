/-! the code of class 11, in stretches -/
def xk11_0 : XB := [(0, [(0, .aload_n 0, 0, 0, 0), (1, .getfield 252, 11, 112, 0), (4, .ifCond .ne 7, 0, 0, 0), (7, .iconst (-1), 0, 0, 0), (8, .goto 13, 0, 0, 0)], 11),
  (11, [(11, .aload_n 0, 0, 0, 0), (12, .getfield 71, 11, 98, 0), (15, .iload_n 1, 0, 0, 0), (16, .iload_n 2, 0, 0, 0), (17, .iload_n 3, 0, 0, 0), (18, .invokevirtual 276, 1, 387, 0)], 21),
  (21, [(21, .ireturn, 0, 0, 0)], 22)]
def xk11_1 : XB := [(0, [(0, .aload_n 0, 0, 0, 0), (1, .iload_n 1, 0, 0, 0), (2, .ifCond .ge 8, 0, 0, 0), (5, .iload_n 1, 0, 0, 0), (6, .ineg, 0, 0, 0), (7, .goto 4, 0, 0, 0)], 10),
  (10, [(10, .iconst 0, 0, 0, 0)], 11),
  (11, [(11, .putfield 122, 11, 24, 0), (14, .iload_n 1, 0, 0, 0), (15, .ifCond .ge 7, 0, 0, 0), (18, .iconst (-1), 0, 0, 0), (19, .goto 4, 0, 0, 0)], 22),
  (22, [(22, .iload_n 1, 0, 0, 0)], 23),
  (23, [(23, .ireturn, 0, 0, 0)], 24)]
def xk11_2 : XB := [(0, [(0, .aload_n 0, 0, 0, 0), (1, .aload_n 0, 0, 0, 0), (2, .getfield 107, 11, 154, 0), (5, .iload_n 1, 0, 0, 0), (6, .iload_n 2, 0, 0, 0), (7, .iload_n 3, 0, 0, 0), (8, .invokevirtual 351, 5, 1475, 0), (11, .invokevirtual 125, 11, 65, 0), (14, .ireturn, 0, 0, 0)], 15)]
def xk11_3 : XB := [(0, [(0, .aload_n 0, 0, 0, 0), (1, .aload_n 0, 0, 0, 0), (2, .getfield 46, 11, 74, 0), (5, .iload_n 1, 0, 0, 0), (6, .iload_n 2, 0, 0, 0), (7, .iload_n 3, 0, 0, 0), (8, .invokevirtual 203, 0, 131, 0), (11, .invokevirtual 115, 11, 1409, 0), (14, .ireturn, 0, 0, 0)], 15)]
def xk11_4 : XB := [(0, [(0, .aload_n 0, 0, 0, 0), (1, .getfield 46, 11, 74, 0), (4, .iload_n 1, 0, 0, 0), (5, .iload_n 2, 0, 0, 0), (6, .invokevirtual 238, 0, 258, 0), (9, .ireturn, 0, 0, 0)], 10)]
def xk11_5 : XB := [(0, [(0, .aload_n 0, 0, 0, 0), (1, .getfield 39, 11, 66, 0), (4, .getfield 132, 3, 120, 0), (7, .ifCond .ne 10, 0, 0, 0), (10, .aload_n 0, 0, 0, 0), (11, .bipush (-3), 0, 0, 0), (13, .invokevirtual 125, 11, 65, 0), (16, .ireturn, 0, 0, 0)], 17),
  (17, [(17, .aload_n 0, 0, 0, 0), (18, .getfield 46, 11, 74, 0), (21, .getfield 177, 0, 0, 0), (24, .iconst 1, 0, 0, 0), (25, .iadd, 0, 0, 0), (26, .bipush 6, 0, 0, 0), (28, .if_icmp .lt 9, 0, 0, 0), (31, .aload_n 0, 0, 0, 0), (32, .iconst (-1), 0, 0, 0), (33, .invokevirtual 125, 11, 65, 0), (36, .ireturn, 0, 0, 0)], 37),
  (37, [(37, .aload_n 0, 0, 0, 0), (38, .getfield 46, 11, 74, 0), (41, .iload_n 1, 0, 0, 0), (42, .bipush 16, 0, 0, 0), (44, .invokestatic 180, 11, 3650, 0), (47, .iload_n 2, 0, 0, 0), (48, .bipush 16, 0, 0, 0), (50, .invokestatic 180, 11, 3650, 0), (53, .iload_n 3, 0, 0, 0), (54, .iconst 4, 0, 0, 0), (55, .invokestatic 180, 11, 3650, 0), (58, .lload 4, 0, 0, 0), (60, .invokevirtual 183, 0, 196, 0), (63, .aload_n 0, 0, 0, 0), (64, .getfield 46, 11, 74, 0), (67, .aload_n 0, 0, 0, 0), (68, .getfield 39, 11, 66, 0), (71, .invokevirtual 187, 0, 1601, 0), (74, .aload_n 0, 0, 0, 0), (75, .aload_n 0, 0, 0, 0), (76, .getfield 46, 11, 74, 0), (79, .getfield 177, 0, 0, 0), (82, .invokevirtual 125, 11, 65, 0), (85, .ireturn, 0, 0, 0)], 86)]
def xk11_6 : XB := [(0, [(0, .aload_n 0, 0, 0, 0), (1, .getfield 107, 11, 154, 0), (4, .iload_n 1, 0, 0, 0), (5, .iload_n 2, 0, 0, 0), (6, .iload_n 3, 0, 0, 0), (7, .iload 4, 0, 0, 0), (9, .invokevirtual 366, 5, 260, 0), (12, .ireturn, 0, 0, 0)], 13)]
def xk11_7 : XB := [(0, [(0, .aload_n 0, 0, 0, 0), (1, .getfield 252, 11, 112, 0), (4, .ifCond .ne 7, 0, 0, 0), (7, .iconst (-1), 0, 0, 0), (8, .goto 11, 0, 0, 0)], 11),
  (11, [(11, .aload_n 0, 0, 0, 0), (12, .getfield 71, 11, 98, 0), (15, .iload_n 1, 0, 0, 0), (16, .invokevirtual 273, 1, 513, 0)], 19),
  (19, [(19, .ireturn, 0, 0, 0)], 20)]
def xk11_8 : XB := [(0, [(0, .aload_n 0, 0, 0, 0), (1, .getfield 46, 11, 74, 0), (4, .getfield 177, 0, 0, 0), (7, .iconst (-1), 0, 0, 0), (8, .if_icmp .ne 10, 0, 0, 0), (11, .aload_n 0, 0, 0, 0), (12, .bipush (-3), 0, 0, 0), (14, .invokevirtual 115, 11, 1409, 0), (17, .ireturn, 0, 0, 0)], 18),
  (18, [(18, .iload_n 2, 0, 0, 0), (19, .invokestatic 207, 11, 1601, 0), (22, .ifCond .eq 22, 0, 0, 0), (25, .iload_n 3, 0, 0, 0), (26, .invokestatic 207, 11, 1601, 0), (29, .ifCond .eq 15, 0, 0, 0), (32, .iload 4, 0, 0, 0), (34, .invokestatic 207, 11, 1601, 0), (37, .ifCond .eq 7, 0, 0, 0), (40, .iconst 1, 0, 0, 0), (41, .goto 4, 0, 0, 0)], 44),
  (44, [(44, .iconst 0, 0, 0, 0)], 45),
  (45, [(45, .istore 5, 0, 0, 0), (47, .iload_n 1, 0, 0, 0), (48, .ifCond .lt 19, 0, 0, 0), (51, .iload_n 1, 0, 0, 0), (52, .aload_n 0, 0, 0, 0), (53, .getfield 46, 11, 74, 0), (56, .getfield 210, 0, 24, 0), (59, .if_icmp .ge 8, 0, 0, 0), (62, .iload 5, 0, 0, 0), (64, .ifCond .ne 10, 0, 0, 0)], 67),
  (67, [(67, .aload_n 0, 0, 0, 0), (68, .bipush (-2), 0, 0, 0), (70, .invokevirtual 115, 11, 1409, 0), (73, .ireturn, 0, 0, 0)], 74),
  (74, [(74, .aload_n 0, 0, 0, 0), (75, .getfield 46, 11, 74, 0), (78, .iload_n 1, 0, 0, 0), (79, .iload_n 2, 0, 0, 0), (80, .iload_n 3, 0, 0, 0), (81, .iload 4, 0, 0, 0), (83, .invokevirtual 213, 0, 1412, 0), (86, .aload_n 0, 0, 0, 0), (87, .iconst 0, 0, 0, 0), (88, .invokevirtual 115, 11, 1409, 0), (91, .ireturn, 0, 0, 0)], 92)]
def xk11_9 : XB := [(0, [(0, .aload_n 0, 0, 0, 0), (1, .getfield 46, 11, 74, 0), (4, .iload_n 1, 0, 0, 0), (5, .invokevirtual 227, 0, 769, 0), (8, .ifCond .eq 19, 0, 0, 0), (11, .aload_n 0, 0, 0, 0), (12, .getfield 46, 11, 74, 0), (15, .getfield 230, 0, 90, 0), (18, .iload_n 1, 0, 0, 0), (19, .iconst 3, 0, 0, 0), (20, .invokevirtual 233, 7, 66, 0), (23, .i2l, 0, 0, 0), (24, .goto 6, 0, 0, 0)], 27),
  (27, [(27, .ldc2_w 236, 0, 0, -1)], 30),
  (30, [(30, .lreturn, 0, 0, 0)], 31)]
def xk11_10 : XB := [(0, [(0, .aload_n 0, 0, 0, 0), (1, .aload_n 0, 0, 0, 0), (2, .getfield 100, 11, 146, 0), (5, .iload_n 1, 0, 0, 0), (6, .invokevirtual 332, 10, 833, 0), (9, .invokevirtual 115, 11, 1409, 0), (12, .ireturn, 0, 0, 0)], 13)]
def xk11_11 : XB := [(0, [(0, .aload_n 0, 0, 0, 0), (1, .getfield 46, 11, 74, 0), (4, .getfield 177, 0, 0, 0), (7, .iconst (-1), 0, 0, 0), (8, .if_icmp .ne 10, 0, 0, 0), (11, .aload_n 0, 0, 0, 0), (12, .bipush (-3), 0, 0, 0), (14, .invokevirtual 125, 11, 65, 0), (17, .ireturn, 0, 0, 0)], 18),
  (18, [(18, .aload_n 0, 0, 0, 0), (19, .getfield 252, 11, 112, 0), (22, .bipush 10, 0, 0, 0), (24, .if_icmp .lt 9, 0, 0, 0), (27, .aload_n 0, 0, 0, 0), (28, .iconst (-1), 0, 0, 0), (29, .invokevirtual 125, 11, 65, 0), (32, .ireturn, 0, 0, 0)], 33),
  (33, [(33, .aload_n 0, 0, 0, 0), (34, .getfield 75, 11, 106, 0), (37, .aload_n 0, 0, 0, 0), (38, .getfield 46, 11, 74, 0), (41, .aload_n 0, 0, 0, 0), (42, .getfield 64, 11, 90, 0), (45, .invokevirtual 255, 1, 2370, 0), (48, .aload_n 0, 0, 0, 0), (49, .getfield 75, 11, 106, 0), (52, .getfield 259, 1, 19, 0), (55, .ifCond .eq 9, 0, 0, 0), (58, .aload_n 0, 0, 0, 0), (59, .iconst (-1), 0, 0, 0), (60, .invokevirtual 125, 11, 65, 0), (63, .ireturn, 0, 0, 0)], 64),
  (64, [(64, .aload_n 0, 0, 0, 0), (65, .dup, 0, 0, 0), (66, .getfield 252, 11, 112, 0), (69, .iconst 1, 0, 0, 0), (70, .iadd, 0, 0, 0), (71, .putfield 252, 11, 112, 0), (74, .aload_n 0, 0, 0, 0), (75, .getfield 71, 11, 98, 0), (78, .astore_n 1, 0, 0, 0), (79, .aload_n 0, 0, 0, 0), (80, .aload_n 0, 0, 0, 0), (81, .getfield 75, 11, 106, 0), (84, .putfield 71, 11, 98, 0), (87, .aload_n 0, 0, 0, 0), (88, .aload_n 1, 0, 0, 0), (89, .putfield 75, 11, 106, 0), (92, .aload_n 0, 0, 0, 0), (93, .aload_n 0, 0, 0, 0), (94, .getfield 71, 11, 98, 0), (97, .getfield 263, 1, 10, 0), (100, .getfield 266, 7, 16, 0), (103, .invokevirtual 125, 11, 65, 0), (106, .ireturn, 0, 0, 0)], 107)]
def xk11_12 : XB := [(0, [(0, .aload_n 0, 0, 0, 0), (1, .getfield 93, 11, 138, 0), (4, .iload_n 1, 0, 0, 0), (5, .invokevirtual 319, 4, 193, 0), (8, .ireturn, 0, 0, 0)], 9)]
def xk11_13 : XB := [(0, [(0, .aload_n 0, 0, 0, 0), (1, .getfield 252, 11, 112, 0), (4, .ifCond .ne 7, 0, 0, 0), (7, .iconst (-1), 0, 0, 0), (8, .goto 12, 0, 0, 0)], 11),
  (11, [(11, .aload_n 0, 0, 0, 0), (12, .getfield 71, 11, 98, 0), (15, .iload_n 1, 0, 0, 0), (16, .iload_n 2, 0, 0, 0), (17, .invokevirtual 285, 1, 706, 0)], 20),
  (20, [(20, .ireturn, 0, 0, 0)], 21)]
def xk11_14 : XB := [(0, [(0, .aload_n 0, 0, 0, 0), (1, .aload_n 0, 0, 0, 0), (2, .getfield 100, 11, 146, 0), (5, .iload_n 1, 0, 0, 0), (6, .invokevirtual 326, 10, 321, 0), (9, .invokevirtual 115, 11, 1409, 0), (12, .ireturn, 0, 0, 0)], 13)]
def xk11_15 : XB := [(0, [(0, .iload_n 1, 0, 0, 0), (1, .ifCond .lt 11, 0, 0, 0), (4, .iload_n 1, 0, 0, 0), (5, .aload_n 0, 0, 0, 0), (6, .getfield 111, 11, 8, 0), (9, .if_icmp .le 10, 0, 0, 0)], 12),
  (12, [(12, .aload_n 0, 0, 0, 0), (13, .bipush (-2), 0, 0, 0), (15, .invokevirtual 115, 11, 1409, 0), (18, .ireturn, 0, 0, 0)], 19),
  (19, [(19, .aload_n 0, 0, 0, 0), (20, .iload_n 1, 0, 0, 0), (21, .putfield 111, 11, 8, 0), (24, .aload_n 0, 0, 0, 0), (25, .iconst 0, 0, 0, 0), (26, .invokevirtual 115, 11, 1409, 0), (29, .ireturn, 0, 0, 0)], 30)]
def xk11_16 : XB := [(0, [(0, .aload_n 0, 0, 0, 0), (1, .getfield 93, 11, 138, 0), (4, .iload_n 1, 0, 0, 0), (5, .invokevirtual 316, 4, 577, 0), (8, .ireturn, 0, 0, 0)], 9)]
def xk11_17 : XB := [(0, [(0, .aload_n 0, 0, 0, 0), (1, .getfield 252, 11, 112, 0), (4, .ifCond .le 17, 0, 0, 0), (7, .aload_n 0, 0, 0, 0), (8, .getfield 71, 11, 98, 0), (11, .invokevirtual 282, 1, 1920, 0), (14, .ifCond .eq 7, 0, 0, 0), (17, .iconst 1, 0, 0, 0), (18, .goto 4, 0, 0, 0)], 21),
  (21, [(21, .iconst 0, 0, 0, 0)], 22),
  (22, [(22, .ireturn, 0, 0, 0)], 23)]
def xk11_18 : XB := [(0, [(0, .aload_n 0, 0, 0, 0), (1, .getfield 46, 11, 74, 0), (4, .getfield 177, 0, 0, 0), (7, .iconst (-1), 0, 0, 0), (8, .if_icmp .ne 10, 0, 0, 0), (11, .aload_n 0, 0, 0, 0), (12, .bipush (-3), 0, 0, 0), (14, .invokevirtual 115, 11, 1409, 0), (17, .ireturn, 0, 0, 0)], 18),
  (18, [(18, .aload_n 0, 0, 0, 0), (19, .getfield 93, 11, 138, 0), (22, .aload_n 0, 0, 0, 0), (23, .getfield 46, 11, 74, 0), (26, .aload_n 0, 0, 0, 0), (27, .getfield 71, 11, 98, 0), (30, .invokevirtual 300, 4, 1794, 0), (33, .aload_n 0, 0, 0, 0), (34, .iconst 0, 0, 0, 0), (35, .invokevirtual 115, 11, 1409, 0), (38, .ireturn, 0, 0, 0)], 39)]
def xk11_19 : XB := [(0, [(0, .aload_n 0, 0, 0, 0), (1, .iconst 2, 0, 0, 0), (2, .putfield 122, 11, 24, 0), (5, .bipush (-2), 0, 0, 0), (7, .iload_n 1, 0, 0, 0), (8, .isub, 0, 0, 0), (9, .ireturn, 0, 0, 0)], 10)]
def xk11_20 : XB := [(0, [(0, .aload_n 0, 0, 0, 0), (1, .getfield 111, 11, 8, 0), (4, .bipush 20, 0, 0, 0), (6, .iadd, 0, 0, 0), (7, .sipush 4000, 0, 0, 0), (10, .if_icmp .le 9, 0, 0, 0), (13, .aload_n 0, 0, 0, 0), (14, .iconst (-1), 0, 0, 0), (15, .invokevirtual 115, 11, 1409, 0), (18, .ireturn, 0, 0, 0)], 19),
  (19, [(19, .aload_n 0, 0, 0, 0), (20, .iload_n 1, 0, 0, 0), (21, .invokevirtual 119, 11, 1345, 0), (24, .aload_n 0, 0, 0, 0), (25, .iload_n 2, 0, 0, 0), (26, .invokevirtual 119, 11, 1345, 0), (29, .aload_n 0, 0, 0, 0), (30, .iload_n 3, 0, 0, 0), (31, .invokevirtual 119, 11, 1345, 0), (34, .aload_n 0, 0, 0, 0), (35, .iload 4, 0, 0, 0), (37, .invokevirtual 119, 11, 1345, 0), (40, .aload_n 0, 0, 0, 0), (41, .iload 5, 0, 0, 0), (43, .invokevirtual 119, 11, 1345, 0), (46, .aload_n 0, 0, 0, 0), (47, .iconst 0, 0, 0, 0), (48, .invokevirtual 115, 11, 1409, 0), (51, .ireturn, 0, 0, 0)], 52)]
def xk11_21 : XB := [(0, [(0, .bipush 24, 0, 0, 0), (2, .istore_n 2, 0, 0, 0)], 3),
  (3, [(3, .iload_n 2, 0, 0, 0), (4, .ifCond .lt 42, 0, 0, 0), (7, .aload_n 0, 0, 0, 0), (8, .getfield 111, 11, 8, 0), (11, .sipush 4000, 0, 0, 0), (14, .if_icmp .ge 32, 0, 0, 0), (17, .aload_n 0, 0, 0, 0), (18, .getfield 9, 11, 2, 0), (21, .aload_n 0, 0, 0, 0), (22, .getfield 111, 11, 8, 0), (25, .iload_n 1, 0, 0, 0), (26, .iload_n 2, 0, 0, 0), (27, .iushr, 0, 0, 0), (28, .i2b, 0, 0, 0), (29, .bastore, 0, 0, 0), (30, .aload_n 0, 0, 0, 0), (31, .dup, 0, 0, 0), (32, .getfield 111, 11, 8, 0), (35, .iconst 1, 0, 0, 0), (36, .iadd, 0, 0, 0), (37, .putfield 111, 11, 8, 0), (40, .iinc 2 (-8), 0, 0, 0), (43, .goto (-40), 0, 0, 0)], 46),
  (46, [(46, .return_, 0, 0, 0)], 47)]
def xk11_22 : XB := [(0, [(0, .aload_n 0, 0, 0, 0), (1, .iload_n 1, 0, 0, 0), (2, .invokevirtual 125, 11, 65, 0), (5, .iconst (-1), 0, 0, 0), (6, .if_icmp .eq 7, 0, 0, 0), (9, .iconst 1, 0, 0, 0), (10, .goto 4, 0, 0, 0)], 13),
  (13, [(13, .iconst 0, 0, 0, 0)], 14),
  (14, [(14, .ireturn, 0, 0, 0)], 15)]
def xk11_23 : XB := [(0, [(0, .aload_n 0, 0, 0, 0), (1, .invokespecial 1, 999, 0, 0), (4, .aload_n 0, 0, 0, 0), (5, .sipush 4000, 0, 0, 0), (8, .newarray .byte, 102, 0, 0), (10, .putfield 9, 11, 2, 0), (13, .aload_n 0, 0, 0, 0), (14, .sipush 4000, 0, 0, 0), (17, .newarray .char, 104, 0, 0), (19, .putfield 13, 11, 18, 0), (22, .aload_n 0, 0, 0, 0), (23, .new 17, 2, 13, 0), (26, .dup, 0, 0, 0), (27, .invokespecial 19, 2, 832, 0), (30, .putfield 20, 11, 34, 0), (33, .aload_n 0, 0, 0, 0), (34, .new 17, 2, 13, 0), (37, .dup, 0, 0, 0), (38, .invokespecial 19, 2, 832, 0), (41, .putfield 24, 11, 42, 0), (44, .aload_n 0, 0, 0, 0), (45, .new 27, 9, 8, 0), (48, .dup, 0, 0, 0), (49, .aload_n 0, 0, 0, 0), (50, .getfield 24, 11, 42, 0), (53, .invokespecial 29, 9, 321, 0), (56, .putfield 32, 11, 50, 0), (59, .aload_n 0, 0, 0, 0), (60, .new 36, 3, 16, 0), (63, .dup, 0, 0, 0), (64, .aload_n 0, 0, 0, 0), (65, .getfield 20, 11, 34, 0), (68, .invokespecial 38, 3, 769, 0), (71, .putfield 39, 11, 66, 0), (74, .aload_n 0, 0, 0, 0), (75, .new 43, 0, 18, 0), (78, .dup, 0, 0, 0), (79, .invokespecial 45, 0, 640, 0), (82, .putfield 46, 11, 74, 0), (85, .aload_n 0, 0, 0, 0), (86, .new 50, 6, 7, 0), (89, .dup, 0, 0, 0), (90, .aload_n 0, 0, 0, 0), (91, .getfield 46, 11, 74, 0), (94, .invokespecial 52, 6, 385, 0), (97, .putfield 55, 11, 82, 0), (100, .aload_n 0, 0, 0, 0), (101, .new 59, 7, 3, 0), (104, .dup, 0, 0, 0), (105, .bipush 30, 0, 0, 0), (107, .invokespecial 61, 7, 193, 0), (110, .putfield 64, 11, 90, 0), (113, .aload_n 0, 0, 0, 0), (114, .new 68, 1, 19, 0), (117, .dup, 0, 0, 0), (118, .invokespecial 70, 1, 1728, 0), (121, .putfield 71, 11, 98, 0), (124, .aload_n 0, 0, 0, 0), (125, .new 68, 1, 19, 0), (128, .dup, 0, 0, 0), (129, .invokespecial 70, 1, 1728, 0), (132, .putfield 75, 11, 106, 0), (135, .aload_n 0, 0, 0, 0), (136, .new 78, 8, 7, 0), (139, .dup, 0, 0, 0), (140, .invokespecial 80, 8, 320, 0), (143, .putfield 81, 11, 122, 0), (146, .aload_n 0, 0, 0, 0), (147, .new 78, 8, 7, 0), (150, .dup, 0, 0, 0), (151, .invokespecial 80, 8, 320, 0), (154, .putfield 85, 11, 130, 0), (157, .aload_n 0, 0, 0, 0), (158, .new 88, 4, 18, 0), (161, .dup, 0, 0, 0), (162, .aload_n 0, 0, 0, 0), (163, .getfield 81, 11, 122, 0), (166, .invokespecial 90, 4, 897, 0), (169, .putfield 93, 11, 138, 0), (172, .aload_n 0, 0, 0, 0), (173, .new 97, 10, 13, 0), (176, .dup, 0, 0, 0), (177, .invokespecial 99, 10, 576, 0), (180, .putfield 100, 11, 146, 0), (183, .aload_n 0, 0, 0, 0), (184, .new 104, 5, 14, 0), (187, .dup, 0, 0, 0), (188, .invokespecial 106, 5, 448, 0), (191, .putfield 107, 11, 154, 0), (194, .return_, 0, 0, 0)], 195)]
def xk11_24 : XB := [(0, [(0, .iload_n 0, 0, 0, 0), (1, .iconst (-1), 0, 0, 0), (2, .if_icmp .lt 12, 0, 0, 0), (5, .iload_n 0, 0, 0, 0), (6, .iconst 3, 0, 0, 0), (7, .if_icmp .gt 7, 0, 0, 0), (10, .iconst 1, 0, 0, 0), (11, .goto 4, 0, 0, 0)], 14),
  (14, [(14, .iconst 0, 0, 0, 0)], 15),
  (15, [(15, .ireturn, 0, 0, 0)], 16)]
def xk11_25 : XB := []
def xk11_26 : XB := [(0, [(0, .aload_n 0, 0, 0, 0), (1, .getfield 20, 11, 34, 0), (4, .iload_n 1, 0, 0, 0), (5, .invokevirtual 154, 2, 1025, 0), (8, .ireturn, 0, 0, 0)], 9)]
def xk11_27 : XB := [(0, [(0, .aload_n 0, 0, 0, 0), (1, .aload_n 0, 0, 0, 0), (2, .getfield 100, 11, 146, 0), (5, .iload_n 1, 0, 0, 0), (6, .aload_n 0, 0, 0, 0), (7, .getfield 46, 11, 74, 0), (10, .invokevirtual 341, 10, 898, 0), (13, .invokevirtual 125, 11, 65, 0), (16, .ireturn, 0, 0, 0)], 17)]
def xk11_28 : XB := [(0, [(0, .aload_n 0, 0, 0, 0), (1, .getfield 39, 11, 66, 0), (4, .iload_n 1, 0, 0, 0), (5, .invokevirtual 171, 3, 1921, 0), (8, .ireturn, 0, 0, 0)], 9)]
def xk11_29 : XB := [(0, [(0, .aload_n 0, 0, 0, 0), (1, .getfield 39, 11, 66, 0), (4, .iload_n 1, 0, 0, 0), (5, .iload_n 2, 0, 0, 0), (6, .invokevirtual 167, 3, 1986, 0), (9, .ireturn, 0, 0, 0)], 10)]
def xk11_30 : XB := [(0, [(0, .aload_n 0, 0, 0, 0), (1, .getfield 39, 11, 66, 0), (4, .getfield 164, 3, 112, 0), (7, .ireturn, 0, 0, 0)], 8)]
def xk11_31 : XB := [(0, [(0, .aload_n 0, 0, 0, 0), (1, .getfield 20, 11, 34, 0), (4, .iload_n 1, 0, 0, 0), (5, .iload_n 2, 0, 0, 0), (6, .invokevirtual 157, 2, 1154, 0), (9, .lreturn, 0, 0, 0)], 10)]
def xk11_32 : XB := [(0, [(0, .iload_n 1, 0, 0, 0), (1, .ifCond .lt 14, 0, 0, 0), (4, .iload_n 1, 0, 0, 0), (5, .aload_n 0, 0, 0, 0), (6, .getfield 93, 11, 138, 0), (9, .getfield 307, 4, 64, 0), (12, .if_icmp .lt 9, 0, 0, 0)], 15),
  (15, [(15, .ldc2_w 310, 0, 0, 1099511627776), (18, .goto 14, 0, 0, 0)], 21),
  (21, [(21, .aload_n 0, 0, 0, 0), (22, .getfield 93, 11, 138, 0), (25, .getfield 312, 4, 58, 0), (28, .iload_n 1, 0, 0, 0), (29, .laload, 0, 0, 0), (30, .l2i, 0, 0, 0), (31, .i2l, 0, 0, 0)], 32),
  (32, [(32, .lreturn, 0, 0, 0)], 33)]
def xk11_33 : XB := [(0, [(0, .aload_n 0, 0, 0, 0), (1, .sipush 400, 0, 0, 0), (4, .invokevirtual 135, 11, 3265, 0), (7, .istore_n 1, 0, 0, 0), (8, .aload_n 0, 0, 0, 0), (9, .getfield 85, 11, 130, 0), (12, .aload_n 0, 0, 0, 0), (13, .getfield 13, 11, 18, 0), (16, .iload_n 1, 0, 0, 0), (17, .invokevirtual 291, 8, 194, 0), (20, .istore_n 2, 0, 0, 0), (21, .iload_n 2, 0, 0, 0), (22, .iconst (-1), 0, 0, 0), (23, .if_icmp .eq 9, 0, 0, 0), (26, .aload_n 0, 0, 0, 0), (27, .iload_n 2, 0, 0, 0), (28, .invokevirtual 142, 11, 1217, 0), (31, .ireturn, 0, 0, 0)], 32),
  (32, [(32, .aload_n 0, 0, 0, 0), (33, .getfield 81, 11, 122, 0), (36, .astore_n 3, 0, 0, 0), (37, .aload_n 0, 0, 0, 0), (38, .aload_n 0, 0, 0, 0), (39, .getfield 85, 11, 130, 0), (42, .putfield 81, 11, 122, 0), (45, .aload_n 0, 0, 0, 0), (46, .aload_n 3, 0, 0, 0), (47, .putfield 85, 11, 130, 0), (50, .aload_n 0, 0, 0, 0), (51, .getfield 93, 11, 138, 0), (54, .aload_n 0, 0, 0, 0), (55, .getfield 81, 11, 122, 0), (58, .invokevirtual 294, 4, 1729, 0), (61, .aload_n 0, 0, 0, 0), (62, .aload_n 0, 0, 0, 0), (63, .getfield 81, 11, 122, 0), (66, .getfield 297, 8, 32, 0), (69, .invokevirtual 125, 11, 65, 0), (72, .ireturn, 0, 0, 0)], 73)]
def xk11_34 : XB := [(0, [(0, .aload_n 0, 0, 0, 0), (1, .getfield 107, 11, 154, 0), (4, .iload_n 1, 0, 0, 0), (5, .iload_n 2, 0, 0, 0), (6, .iload_n 3, 0, 0, 0), (7, .invokevirtual 363, 5, 1219, 0), (10, .ireturn, 0, 0, 0)], 11)]
def xk11_35 : XB := [(0, [(0, .aload_n 0, 0, 0, 0), (1, .aload_n 0, 0, 0, 0), (2, .getfield 46, 11, 74, 0), (5, .iload_n 1, 0, 0, 0), (6, .iload_n 2, 0, 0, 0), (7, .iload_n 3, 0, 0, 0), (8, .iload 4, 0, 0, 0), (10, .iload 5, 0, 0, 0), (12, .invokevirtual 199, 0, 5, 0), (15, .invokevirtual 125, 11, 65, 0), (18, .ireturn, 0, 0, 0)], 19)]
def xk11_36 : XB := [(0, [(0, .aload_n 0, 0, 0, 0), (1, .getfield 252, 11, 112, 0), (4, .ifCond .ne 10, 0, 0, 0), (7, .aload_n 0, 0, 0, 0), (8, .bipush (-3), 0, 0, 0), (10, .invokevirtual 125, 11, 65, 0), (13, .ireturn, 0, 0, 0)], 14),
  (14, [(14, .aload_n 0, 0, 0, 0), (15, .getfield 71, 11, 98, 0), (18, .invokevirtual 282, 1, 1920, 0), (21, .ifCond .eq 17, 0, 0, 0), (24, .aload_n 0, 0, 0, 0), (25, .getfield 93, 11, 138, 0), (28, .invokevirtual 345, 4, 128, 0), (31, .ifCond .eq 7, 0, 0, 0), (34, .iconst 1, 0, 0, 0), (35, .goto 4, 0, 0, 0)], 38),
  (38, [(38, .iconst 0, 0, 0, 0)], 39),
  (39, [(39, .istore_n 1, 0, 0, 0), (40, .aload_n 0, 0, 0, 0), (41, .aload_n 0, 0, 0, 0), (42, .getfield 107, 11, 154, 0), (45, .aload_n 0, 0, 0, 0), (46, .getfield 71, 11, 98, 0), (49, .iload_n 1, 0, 0, 0), (50, .invokevirtual 348, 5, 2, 0), (53, .invokevirtual 125, 11, 65, 0), (56, .ireturn, 0, 0, 0)], 57)]
def xk11_37 : XB := [(0, [(0, .aload_n 0, 0, 0, 0), (1, .getfield 39, 11, 66, 0), (4, .iload_n 1, 0, 0, 0), (5, .invokevirtual 174, 3, 2177, 0), (8, .ireturn, 0, 0, 0)], 9)]
def xk11_38 : XB := [(0, [(0, .aload_n 0, 0, 0, 0), (1, .aload_n 0, 0, 0, 0), (2, .getfield 100, 11, 146, 0), (5, .invokevirtual 335, 10, 1152, 0), (8, .invokevirtual 125, 11, 65, 0), (11, .ireturn, 0, 0, 0)], 12)]
def xk11_39 : XB := [(0, [(0, .aload_n 0, 0, 0, 0), (1, .getfield 252, 11, 112, 0), (4, .ifCond .ne 7, 0, 0, 0), (7, .iconst (-1), 0, 0, 0), (8, .goto 11, 0, 0, 0)], 11),
  (11, [(11, .aload_n 0, 0, 0, 0), (12, .getfield 71, 11, 98, 0), (15, .iload_n 1, 0, 0, 0), (16, .invokevirtual 288, 1, 3009, 0)], 19),
  (19, [(19, .ireturn, 0, 0, 0)], 20)]
def xk11_40 : XB := [(0, [(0, .aload_n 0, 0, 0, 0), (1, .getfield 107, 11, 154, 0), (4, .iload_n 1, 0, 0, 0), (5, .iload_n 2, 0, 0, 0), (6, .invokevirtual 360, 5, 1410, 0), (9, .ireturn, 0, 0, 0)], 10)]
def xk11_41 : XB := [(0, [(0, .aload_n 0, 0, 0, 0), (1, .getfield 46, 11, 74, 0), (4, .getfield 177, 0, 0, 0), (7, .iconst (-1), 0, 0, 0), (8, .if_icmp .ne 10, 0, 0, 0), (11, .aload_n 0, 0, 0, 0), (12, .bipush (-3), 0, 0, 0), (14, .invokevirtual 125, 11, 65, 0), (17, .ireturn, 0, 0, 0)], 18),
  (18, [(18, .iload_n 1, 0, 0, 0), (19, .iconst 1, 0, 0, 0), (20, .if_icmp .lt 9, 0, 0, 0), (23, .iload_n 1, 0, 0, 0), (24, .bipush 20, 0, 0, 0), (26, .if_icmp .le 10, 0, 0, 0)], 29),
  (29, [(29, .aload_n 0, 0, 0, 0), (30, .bipush (-2), 0, 0, 0), (32, .invokevirtual 125, 11, 65, 0), (35, .ireturn, 0, 0, 0)], 36),
  (36, [(36, .iconst 0, 0, 0, 0), (37, .istore_n 2, 0, 0, 0)], 38),
  (38, [(38, .iload_n 2, 0, 0, 0), (39, .iload_n 1, 0, 0, 0), (40, .if_icmp .ge 26, 0, 0, 0), (43, .aload_n 0, 0, 0, 0), (44, .getfield 46, 11, 74, 0), (47, .invokevirtual 217, 0, 1088, 0), (50, .ifCond .le 16, 0, 0, 0), (53, .aload_n 0, 0, 0, 0), (54, .getfield 55, 11, 82, 0), (57, .invokevirtual 221, 6, 256, 0), (60, .iinc 2 1, 0, 0, 0), (63, .goto (-25), 0, 0, 0)], 66),
  (66, [(66, .aload_n 0, 0, 0, 0), (67, .aload_n 0, 0, 0, 0), (68, .getfield 46, 11, 74, 0), (71, .invokevirtual 217, 0, 1088, 0), (74, .invokevirtual 125, 11, 65, 0), (77, .ireturn, 0, 0, 0)], 78)]
def xk11_42 : XB := [(0, [(0, .iload_n 1, 0, 0, 0), (1, .iconst 4, 0, 0, 0), (2, .if_icmp .ne 7, 0, 0, 0), (5, .iconst 0, 0, 0, 0), (6, .goto 5, 0, 0, 0)], 9),
  (9, [(9, .ldc 241, 0, 0, 100000)], 11),
  (11, [(11, .istore 5, 0, 0, 0), (13, .iload_n 1, 0, 0, 0), (14, .ifCond .lt 26, 0, 0, 0), (17, .iload_n 1, 0, 0, 0), (18, .iconst 4, 0, 0, 0), (19, .if_icmp .gt 21, 0, 0, 0), (22, .iload_n 2, 0, 0, 0), (23, .invokestatic 242, 11, 1537, 0), (26, .ifCond .eq 14, 0, 0, 0), (29, .iload_n 3, 0, 0, 0), (30, .invokestatic 242, 11, 1537, 0), (33, .ifCond .eq 7, 0, 0, 0), (36, .iconst 1, 0, 0, 0), (37, .goto 4, 0, 0, 0)], 40),
  (40, [(40, .iconst 0, 0, 0, 0)], 41),
  (41, [(41, .istore 6, 0, 0, 0), (43, .iload 6, 0, 0, 0), (45, .ifCond .eq 15, 0, 0, 0), (48, .iload 4, 0, 0, 0), (50, .ifCond .lt 10, 0, 0, 0), (53, .iload 4, 0, 0, 0), (55, .iload 5, 0, 0, 0), (57, .if_icmp .le 10, 0, 0, 0)], 60),
  (60, [(60, .aload_n 0, 0, 0, 0), (61, .bipush (-2), 0, 0, 0), (63, .invokevirtual 125, 11, 65, 0), (66, .ireturn, 0, 0, 0)], 67),
  (67, [(67, .aload_n 0, 0, 0, 0), (68, .getfield 64, 11, 90, 0), (71, .invokevirtual 245, 7, 128, 0), (74, .ifCond .ne 9, 0, 0, 0), (77, .aload_n 0, 0, 0, 0), (78, .iconst (-1), 0, 0, 0), (79, .invokevirtual 125, 11, 65, 0), (82, .ireturn, 0, 0, 0)], 83),
  (83, [(83, .aload_n 0, 0, 0, 0), (84, .aload_n 0, 0, 0, 0), (85, .getfield 64, 11, 90, 0), (88, .iload_n 1, 0, 0, 0), (89, .iload_n 2, 0, 0, 0), (90, .iload_n 3, 0, 0, 0), (91, .iload 4, 0, 0, 0), (93, .iconst 0, 0, 0, 0), (94, .invokevirtual 249, 7, 5, 0), (97, .invokevirtual 125, 11, 65, 0), (100, .ireturn, 0, 0, 0)], 101)]
def xk11_43 : XB := [(0, [(0, .iload_n 1, 0, 0, 0), (1, .iconst 1, 0, 0, 0), (2, .if_icmp .lt 10, 0, 0, 0), (5, .iload_n 1, 0, 0, 0), (6, .sipush 300, 0, 0, 0), (9, .if_icmp .le 10, 0, 0, 0)], 12),
  (12, [(12, .aload_n 0, 0, 0, 0), (13, .bipush (-2), 0, 0, 0), (15, .invokevirtual 125, 11, 65, 0), (18, .ireturn, 0, 0, 0)], 19),
  (19, [(19, .aload_n 0, 0, 0, 0), (20, .aload_n 0, 0, 0, 0), (21, .getfield 93, 11, 138, 0), (24, .iload_n 1, 0, 0, 0), (25, .invokevirtual 304, 4, 833, 0), (28, .invokevirtual 125, 11, 65, 0), (31, .ireturn, 0, 0, 0)], 32)]
def xk11_44 : XB := [(0, [(0, .aload_n 0, 0, 0, 0), (1, .aload_n 0, 0, 0, 0), (2, .getfield 100, 11, 146, 0), (5, .aload_n 0, 0, 0, 0), (6, .getfield 46, 11, 74, 0), (9, .invokevirtual 322, 10, 769, 0), (12, .invokevirtual 125, 11, 65, 0), (15, .ireturn, 0, 0, 0)], 16)]
def xk11_45 : XB := [(0, [(0, .aload_n 0, 0, 0, 0), (1, .getfield 100, 11, 146, 0), (4, .iload_n 1, 0, 0, 0), (5, .iload_n 2, 0, 0, 0), (6, .invokevirtual 338, 10, 194, 0), (9, .ireturn, 0, 0, 0)], 10)]
def xk11_46 : XB := [(0, [(0, .aload_n 0, 0, 0, 0), (1, .aload_n 0, 0, 0, 0), (2, .getfield 107, 11, 154, 0), (5, .iload_n 1, 0, 0, 0), (6, .invokevirtual 357, 5, 1153, 0), (9, .invokevirtual 125, 11, 65, 0), (12, .ireturn, 0, 0, 0)], 13)]
def xk11_47 : XB := [(0, [(0, .iload_n 1, 0, 0, 0), (1, .ifCond .eq 15, 0, 0, 0), (4, .iload_n 1, 0, 0, 0), (5, .iconst 1, 0, 0, 0), (6, .if_icmp .eq 10, 0, 0, 0), (9, .aload_n 0, 0, 0, 0), (10, .bipush (-2), 0, 0, 0), (12, .invokevirtual 125, 11, 65, 0), (15, .ireturn, 0, 0, 0)], 16),
  (16, [(16, .aload_n 0, 0, 0, 0), (17, .getfield 129, 11, 56, 0), (20, .bipush 24, 0, 0, 0), (22, .if_icmp .ge 14, 0, 0, 0), (25, .aload_n 0, 0, 0, 0), (26, .getfield 39, 11, 66, 0), (29, .getfield 132, 3, 120, 0), (32, .iconst 4, 0, 0, 0), (33, .if_icmp .lt 9, 0, 0, 0)], 36),
  (36, [(36, .aload_n 0, 0, 0, 0), (37, .iconst (-1), 0, 0, 0), (38, .invokevirtual 125, 11, 65, 0), (41, .ireturn, 0, 0, 0)], 42),
  (42, [(42, .aload_n 0, 0, 0, 0), (43, .dup, 0, 0, 0), (44, .getfield 129, 11, 56, 0), (47, .iconst 1, 0, 0, 0), (48, .iadd, 0, 0, 0), (49, .putfield 129, 11, 56, 0), (52, .aload_n 0, 0, 0, 0), (53, .sipush 4000, 0, 0, 0), (56, .invokevirtual 135, 11, 3265, 0), (59, .istore_n 2, 0, 0, 0), (60, .aload_n 0, 0, 0, 0), (61, .getfield 32, 11, 50, 0), (64, .aload_n 0, 0, 0, 0), (65, .getfield 13, 11, 18, 0), (68, .iload_n 2, 0, 0, 0), (69, .iload_n 1, 0, 0, 0), (70, .aload_n 0, 0, 0, 0), (71, .getfield 24, 11, 42, 0), (74, .invokevirtual 138, 9, 196, 0), (77, .istore_n 3, 0, 0, 0), (78, .iload_n 3, 0, 0, 0), (79, .iconst (-1), 0, 0, 0), (80, .if_icmp .eq 9, 0, 0, 0), (83, .aload_n 0, 0, 0, 0), (84, .iload_n 3, 0, 0, 0), (85, .invokevirtual 142, 11, 1217, 0), (88, .ireturn, 0, 0, 0)], 89),
  (89, [(89, .aload_n 0, 0, 0, 0), (90, .getfield 20, 11, 34, 0), (93, .astore 4, 0, 0, 0), (95, .aload_n 0, 0, 0, 0), (96, .aload_n 0, 0, 0, 0), (97, .getfield 24, 11, 42, 0), (100, .putfield 20, 11, 34, 0), (103, .aload_n 0, 0, 0, 0), (104, .aload 4, 0, 0, 0), (106, .putfield 24, 11, 42, 0), (109, .aload_n 0, 0, 0, 0), (110, .getfield 20, 11, 34, 0), (113, .invokevirtual 145, 2, 1984, 0), (116, .aload_n 0, 0, 0, 0), (117, .getfield 39, 11, 66, 0), (120, .aload_n 0, 0, 0, 0), (121, .getfield 20, 11, 34, 0), (124, .invokevirtual 148, 3, 385, 0), (127, .aload_n 0, 0, 0, 0), (128, .aload_n 0, 0, 0, 0), (129, .getfield 20, 11, 34, 0), (132, .getfield 151, 2, 0, 0), (135, .invokevirtual 125, 11, 65, 0), (138, .ireturn, 0, 0, 0)], 139)]
def xk11_48 : XB := [(0, [(0, .aload_n 0, 0, 0, 0), (1, .getfield 252, 11, 112, 0), (4, .ifCond .ne 7, 0, 0, 0), (7, .iconst (-1), 0, 0, 0), (8, .goto 10, 0, 0, 0)], 11),
  (11, [(11, .aload_n 0, 0, 0, 0), (12, .getfield 71, 11, 98, 0), (15, .getfield 279, 1, 72, 0)], 18),
  (18, [(18, .ireturn, 0, 0, 0)], 19)]
def xk11_49 : XB := []
def xk11_50 : XB := [(0, [(0, .aload_n 0, 0, 0, 0), (1, .aload_n 0, 0, 0, 0), (2, .getfield 100, 11, 146, 0), (5, .invokevirtual 329, 10, 1344, 0), (8, .invokevirtual 125, 11, 65, 0), (11, .ireturn, 0, 0, 0)], 12)]
def xk11_51 : XB := [(0, [(0, .iconst 0, 0, 0, 0), (1, .istore_n 2, 0, 0, 0), (2, .iconst 0, 0, 0, 0), (3, .istore_n 3, 0, 0, 0)], 4),
  (4, [(4, .iload_n 3, 0, 0, 0), (5, .aload_n 0, 0, 0, 0), (6, .getfield 111, 11, 8, 0), (9, .if_icmp .ge 55, 0, 0, 0), (12, .iload_n 2, 0, 0, 0), (13, .iload_n 1, 0, 0, 0), (14, .if_icmp .ge 50, 0, 0, 0), (17, .aload_n 0, 0, 0, 0), (18, .getfield 9, 11, 2, 0), (21, .iload_n 3, 0, 0, 0), (22, .baload, 0, 0, 0), (23, .istore 4, 0, 0, 0), (25, .iload 4, 0, 0, 0), (27, .bipush 10, 0, 0, 0), (29, .if_icmp .eq 17, 0, 0, 0), (32, .iload 4, 0, 0, 0), (34, .bipush 32, 0, 0, 0), (36, .if_icmp .lt 22, 0, 0, 0), (39, .iload 4, 0, 0, 0), (41, .bipush 126, 0, 0, 0), (43, .if_icmp .gt 15, 0, 0, 0)], 46),
  (46, [(46, .aload_n 0, 0, 0, 0), (47, .getfield 13, 11, 18, 0), (50, .iload_n 2, 0, 0, 0), (51, .iload 4, 0, 0, 0), (53, .i2c, 0, 0, 0), (54, .castore, 0, 0, 0), (55, .iinc 2 1, 0, 0, 0)], 58),
  (58, [(58, .iinc 3 1, 0, 0, 0), (61, .goto (-57), 0, 0, 0)], 64),
  (64, [(64, .aload_n 0, 0, 0, 0), (65, .iconst 0, 0, 0, 0), (66, .putfield 111, 11, 8, 0), (69, .iload_n 2, 0, 0, 0), (70, .ireturn, 0, 0, 0)], 71)]
def xk11_52 : XB := [(0, [(0, .aload_n 0, 0, 0, 0), (1, .getfield 122, 11, 24, 0), (4, .ireturn, 0, 0, 0)], 5)]
def xk11_53 : XB := [(0, [(0, .aload_n 0, 0, 0, 0), (1, .getfield 252, 11, 112, 0), (4, .ifCond .ne 7, 0, 0, 0), (7, .iconst (-1), 0, 0, 0), (8, .goto 12, 0, 0, 0)], 11),
  (11, [(11, .aload_n 0, 0, 0, 0), (12, .getfield 71, 11, 98, 0), (15, .iload_n 1, 0, 0, 0), (16, .iload_n 2, 0, 0, 0), (17, .invokevirtual 270, 1, 1026, 0)], 20),
  (20, [(20, .ireturn, 0, 0, 0)], 21)]
def xk11_54 : XB := [(0, [(0, .aload_n 0, 0, 0, 0), (1, .getfield 252, 11, 112, 0), (4, .ifCond .ne 7, 0, 0, 0), (7, .iconst (-1), 0, 0, 0), (8, .goto 10, 0, 0, 0)], 11),
  (11, [(11, .aload_n 0, 0, 0, 0), (12, .getfield 71, 11, 98, 0), (15, .getfield 267, 1, 88, 0)], 18),
  (18, [(18, .ireturn, 0, 0, 0)], 19)]
def xk11_55 : XB := [(0, [(0, .aload_n 0, 0, 0, 0), (1, .getfield 46, 11, 74, 0), (4, .iload_n 1, 0, 0, 0), (5, .iload_n 2, 0, 0, 0), (6, .iload_n 3, 0, 0, 0), (7, .invokevirtual 224, 0, 1795, 0), (10, .ireturn, 0, 0, 0)], 11)]
def xk11_56 : XB := [(0, [(0, .aload_n 0, 0, 0, 0), (1, .aload_n 0, 0, 0, 0), (2, .getfield 107, 11, 154, 0), (5, .iload_n 1, 0, 0, 0), (6, .invokevirtual 354, 5, 1537, 0), (9, .invokevirtual 115, 11, 1409, 0), (12, .ireturn, 0, 0, 0)], 13)]
def xk11_57 : XB := []
def xk11_58 : XB := [(0, [(0, .aload_n 0, 0, 0, 0), (1, .getfield 20, 11, 34, 0), (4, .iload_n 1, 0, 0, 0), (5, .invokevirtual 161, 2, 1217, 0), (8, .ireturn, 0, 0, 0)], 9)]
def xk11 : List XB := [xk11_0, xk11_1, xk11_2, xk11_3, xk11_4, xk11_5, xk11_6, xk11_7, xk11_8, xk11_9, xk11_10, xk11_11, xk11_12, xk11_13, xk11_14, xk11_15, xk11_16, xk11_17, xk11_18, xk11_19, xk11_20, xk11_21, xk11_22, xk11_23, xk11_24, xk11_25, xk11_26, xk11_27, xk11_28, xk11_29, xk11_30, xk11_31, xk11_32, xk11_33, xk11_34, xk11_35, xk11_36, xk11_37, xk11_38, xk11_39, xk11_40, xk11_41, xk11_42, xk11_43, xk11_44, xk11_45, xk11_46, xk11_47, xk11_48, xk11_49, xk11_50, xk11_51, xk11_52, xk11_53, xk11_54, xk11_55, xk11_56, xk11_57, xk11_58]
theorem xr11_0 : xRowOk (11, xmn 11 0, prog_1_method_33_code, 4, (some .int), xk11_0) = true := by decide +kernel
theorem xr11_1 : xRowOk (11, xmn 11 1, prog_1_method_6_code, 2, (some .int), xk11_1) = true := by decide +kernel
theorem xr11_2 : xRowOk (11, xmn 11 2, prog_1_method_52_code, 4, (some .int), xk11_2) = true := by decide +kernel
theorem xr11_3 : xRowOk (11, xmn 11 3, prog_1_method_20_code, 4, (some .boolean), xk11_3) = true := by decide +kernel
theorem xr11_4 : xRowOk (11, xmn 11 4, prog_1_method_26_code, 3, (some .int), xk11_4) = true := by decide +kernel
theorem xr11_5 : xRowOk (11, xmn 11 5, prog_1_method_17_code, 6, (some .int), xk11_5) = true := by decide +kernel
theorem xr11_6 : xRowOk (11, xmn 11 6, prog_1_method_57_code, 5, (some .int), xk11_6) = true := by decide +kernel
theorem xr11_7 : xRowOk (11, xmn 11 7, prog_1_method_32_code, 2, (some .int), xk11_7) = true := by decide +kernel
theorem xr11_8 : xRowOk (11, xmn 11 8, prog_1_method_21_code, 6, (some .boolean), xk11_8) = true := by decide +kernel
theorem xr11_9 : xRowOk (11, xmn 11 9, prog_1_method_25_code, 2, (some .long), xk11_9) = true := by decide +kernel
theorem xr11_10 : xRowOk (11, xmn 11 10, prog_1_method_47_code, 2, (some .boolean), xk11_10) = true := by decide +kernel
theorem xr11_11 : xRowOk (11, xmn 11 11, prog_1_method_29_code, 2, (some .int), xk11_11) = true := by decide +kernel
theorem xr11_12 : xRowOk (11, xmn 11 12, prog_1_method_43_code, 2, (some .int), xk11_12) = true := by decide +kernel
theorem xr11_13 : xRowOk (11, xmn 11 13, prog_1_method_36_code, 3, (some .int), xk11_13) = true := by decide +kernel
theorem xr11_14 : xRowOk (11, xmn 11 14, prog_1_method_45_code, 2, (some .boolean), xk11_14) = true := by decide +kernel
theorem xr11_15 : xRowOk (11, xmn 11 15, prog_1_method_3_code, 2, (some .boolean), xk11_15) = true := by decide +kernel
theorem xr11_16 : xRowOk (11, xmn 11 16, prog_1_method_42_code, 2, (some .int), xk11_16) = true := by decide +kernel
theorem xr11_17 : xRowOk (11, xmn 11 17, prog_1_method_35_code, 1, (some .boolean), xk11_17) = true := by decide +kernel
theorem xr11_18 : xRowOk (11, xmn 11 18, prog_1_method_39_code, 1, (some .boolean), xk11_18) = true := by decide +kernel
theorem xr11_19 : xRowOk (11, xmn 11 19, prog_1_method_8_code, 2, (some .int), xk11_19) = true := by decide +kernel
theorem xr11_20 : xRowOk (11, xmn 11 20, prog_1_method_2_code, 6, (some .boolean), xk11_20) = true := by decide +kernel
theorem xr11_21 : xRowOk (11, xmn 11 21, prog_1_method_4_code, 3, none, xk11_21) = true := by decide +kernel
theorem xr11_22 : xRowOk (11, xmn 11 22, prog_1_method_7_code, 2, (some .boolean), xk11_22) = true := by decide +kernel
theorem xr11_23 : xRowOk (11, xmn 11 23, prog_1_method_1_code, 1, none, xk11_23) = true := by decide +kernel
theorem xr11_24 : xRowOk (11, xmn 11 24, prog_1_method_28_code, 1, (some .boolean), xk11_24) = true := by decide +kernel
theorem xr11_25 : xRowOk (11, xmn 11 25, prog_1_method_22_code, 1, (some .boolean), xk11_25) = true := by decide +kernel
theorem xr11_26 : xRowOk (11, xmn 11 26, prog_1_method_10_code, 2, (some .int), xk11_26) = true := by decide +kernel
theorem xr11_27 : xRowOk (11, xmn 11 27, prog_1_method_50_code, 2, (some .int), xk11_27) = true := by decide +kernel
theorem xr11_28 : xRowOk (11, xmn 11 28, prog_1_method_15_code, 2, (some .int), xk11_28) = true := by decide +kernel
theorem xr11_29 : xRowOk (11, xmn 11 29, prog_1_method_14_code, 3, (some .int), xk11_29) = true := by decide +kernel
theorem xr11_30 : xRowOk (11, xmn 11 30, prog_1_method_13_code, 1, (some .int), xk11_30) = true := by decide +kernel
theorem xr11_31 : xRowOk (11, xmn 11 31, prog_1_method_11_code, 3, (some .long), xk11_31) = true := by decide +kernel
theorem xr11_32 : xRowOk (11, xmn 11 32, prog_1_method_41_code, 2, (some .long), xk11_32) = true := by decide +kernel
theorem xr11_33 : xRowOk (11, xmn 11 33, prog_1_method_38_code, 4, (some .int), xk11_33) = true := by decide +kernel
theorem xr11_34 : xRowOk (11, xmn 11 34, prog_1_method_56_code, 4, (some .int), xk11_34) = true := by decide +kernel
theorem xr11_35 : xRowOk (11, xmn 11 35, prog_1_method_19_code, 6, (some .int), xk11_35) = true := by decide +kernel
theorem xr11_36 : xRowOk (11, xmn 11 36, prog_1_method_51_code, 2, (some .int), xk11_36) = true := by decide +kernel
theorem xr11_37 : xRowOk (11, xmn 11 37, prog_1_method_16_code, 2, (some .int), xk11_37) = true := by decide +kernel
theorem xr11_38 : xRowOk (11, xmn 11 38, prog_1_method_48_code, 1, (some .int), xk11_38) = true := by decide +kernel
theorem xr11_39 : xRowOk (11, xmn 11 39, prog_1_method_37_code, 2, (some .int), xk11_39) = true := by decide +kernel
theorem xr11_40 : xRowOk (11, xmn 11 40, prog_1_method_55_code, 3, (some .int), xk11_40) = true := by decide +kernel
theorem xr11_41 : xRowOk (11, xmn 11 41, prog_1_method_23_code, 3, (some .int), xk11_41) = true := by decide +kernel
theorem xr11_42 : xRowOk (11, xmn 11 42, prog_1_method_27_code, 7, (some .int), xk11_42) = true := by decide +kernel
theorem xr11_43 : xRowOk (11, xmn 11 43, prog_1_method_40_code, 2, (some .int), xk11_43) = true := by decide +kernel
theorem xr11_44 : xRowOk (11, xmn 11 44, prog_1_method_44_code, 1, (some .int), xk11_44) = true := by decide +kernel
theorem xr11_45 : xRowOk (11, xmn 11 45, prog_1_method_49_code, 3, (some .int), xk11_45) = true := by decide +kernel
theorem xr11_46 : xRowOk (11, xmn 11 46, prog_1_method_54_code, 2, (some .int), xk11_46) = true := by decide +kernel
theorem xr11_47 : xRowOk (11, xmn 11 47, prog_1_method_9_code, 5, (some .int), xk11_47) = true := by decide +kernel
theorem xr11_48 : xRowOk (11, xmn 11 48, prog_1_method_34_code, 1, (some .int), xk11_48) = true := by decide +kernel
theorem xr11_49 : xRowOk (11, xmn 11 49, prog_1_method_59_code, 6, none, xk11_49) = true := by decide +kernel
theorem xr11_50 : xRowOk (11, xmn 11 50, prog_1_method_46_code, 1, (some .int), xk11_50) = true := by decide +kernel
theorem xr11_51 : xRowOk (11, xmn 11 51, prog_1_method_5_code, 5, (some .int), xk11_51) = true := by decide +kernel
theorem xr11_52 : xRowOk (11, xmn 11 52, prog_1_method_58_code, 1, (some .int), xk11_52) = true := by decide +kernel
theorem xr11_53 : xRowOk (11, xmn 11 53, prog_1_method_31_code, 3, (some .int), xk11_53) = true := by decide +kernel
theorem xr11_54 : xRowOk (11, xmn 11 54, prog_1_method_30_code, 1, (some .int), xk11_54) = true := by decide +kernel
theorem xr11_55 : xRowOk (11, xmn 11 55, prog_1_method_24_code, 4, (some .int), xk11_55) = true := by decide +kernel
theorem xr11_56 : xRowOk (11, xmn 11 56, prog_1_method_53_code, 2, (some .boolean), xk11_56) = true := by decide +kernel
theorem xr11_57 : xRowOk (11, xmn 11 57, prog_1_method_18_code, 2, (some .int), xk11_57) = true := by decide +kernel
theorem xr11_58 : xRowOk (11, xmn 11 58, prog_1_method_12_code, 2, (some .int), xk11_58) = true := by decide +kernel
