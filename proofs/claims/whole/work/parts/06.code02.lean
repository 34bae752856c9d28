/-! the code of class 2, in stretches -/
def xk2_0 : XB := [(0, [(0, .aload_n 0, 0, 0, 0), (1, .getfield 80, 2, 0, 0), (4, .istore_n 3, 0, 0, 0), (5, .iload_n 3, 0, 0, 0), (6, .sipush 200, 0, 0, 0), (9, .if_icmp .lt 5, 0, 0, 0), (12, .iconst (-1), 0, 0, 0), (13, .ireturn, 0, 0, 0)], 14),
  (14, [(14, .aload_n 0, 0, 0, 0), (15, .dup, 0, 0, 0), (16, .getfield 80, 2, 0, 0), (19, .iconst 1, 0, 0, 0), (20, .iadd, 0, 0, 0), (21, .putfield 80, 2, 0, 0), (24, .aload_n 0, 0, 0, 0), (25, .getfield 11, 2, 26, 0), (28, .iload_n 3, 0, 0, 0), (29, .iload_n 1, 0, 0, 0), (30, .iastore, 0, 0, 0), (31, .aload_n 0, 0, 0, 0), (32, .getfield 15, 2, 34, 0), (35, .iload_n 3, 0, 0, 0), (36, .iload_n 2, 0, 0, 0), (37, .iastore, 0, 0, 0), (38, .aload_n 0, 0, 0, 0), (39, .getfield 18, 2, 42, 0), (42, .iload_n 3, 0, 0, 0), (43, .iload_n 2, 0, 0, 0), (44, .ifCond .lt 8, 0, 0, 0), (47, .iload_n 2, 0, 0, 0), (48, .iload_n 3, 0, 0, 0), (49, .if_icmp .lt 7, 0, 0, 0)], 52),
  (52, [(52, .iconst 0, 0, 0, 0), (53, .goto 11, 0, 0, 0)], 56),
  (56, [(56, .aload_n 0, 0, 0, 0), (57, .getfield 18, 2, 42, 0), (60, .iload_n 2, 0, 0, 0), (61, .iaload, 0, 0, 0), (62, .iconst 1, 0, 0, 0), (63, .iadd, 0, 0, 0)], 64),
  (64, [(64, .iastore, 0, 0, 0), (65, .iconst 0, 0, 0, 0), (66, .istore 4, 0, 0, 0)], 68),
  (68, [(68, .iload 4, 0, 0, 0), (70, .iconst 5, 0, 0, 0), (71, .if_icmp .ge 21, 0, 0, 0), (74, .aload_n 0, 0, 0, 0), (75, .getfield 21, 2, 50, 0), (78, .iload_n 3, 0, 0, 0), (79, .iconst 5, 0, 0, 0), (80, .imul, 0, 0, 0), (81, .iload 4, 0, 0, 0), (83, .iadd, 0, 0, 0), (84, .lconst 0, 0, 0, 0), (85, .lastore, 0, 0, 0), (86, .iinc 4 1, 0, 0, 0), (89, .goto (-21), 0, 0, 0)], 92),
  (92, [(92, .iload_n 1, 0, 0, 0), (93, .bipush 6, 0, 0, 0), (95, .if_icmp .ne 12, 0, 0, 0), (98, .aload_n 0, 0, 0, 0), (99, .iload_n 3, 0, 0, 0), (100, .iconst 2, 0, 0, 0), (101, .ldc2_w 89, 0, 0, 1270000), (104, .invokevirtual 91, 2, 1475, 0)], 107),
  (107, [(107, .iconst 0, 0, 0, 0), (108, .istore 4, 0, 0, 0)], 110),
  (110, [(110, .iload 4, 0, 0, 0), (112, .iconst 2, 0, 0, 0), (113, .if_icmp .ge 36, 0, 0, 0), (116, .aload_n 0, 0, 0, 0), (117, .getfield 25, 2, 58, 0), (120, .iload_n 3, 0, 0, 0), (121, .iconst 2, 0, 0, 0), (122, .imul, 0, 0, 0), (123, .iload 4, 0, 0, 0), (125, .iadd, 0, 0, 0), (126, .aload_n 0, 0, 0, 0), (127, .getfield 86, 2, 80, 0), (130, .iastore, 0, 0, 0), (131, .aload_n 0, 0, 0, 0), (132, .getfield 28, 2, 66, 0), (135, .iload_n 3, 0, 0, 0), (136, .iconst 2, 0, 0, 0), (137, .imul, 0, 0, 0), (138, .iload 4, 0, 0, 0), (140, .iadd, 0, 0, 0), (141, .iconst 0, 0, 0, 0), (142, .iastore, 0, 0, 0), (143, .iinc 4 1, 0, 0, 0), (146, .goto (-36), 0, 0, 0)], 149),
  (149, [(149, .iload_n 3, 0, 0, 0), (150, .ireturn, 0, 0, 0)], 151)]
def xk2_1 : XB := [(0, [(0, .aload_n 0, 0, 0, 0), (1, .iload_n 1, 0, 0, 0), (2, .invokevirtual 95, 2, 897, 0), (5, .ifCond .eq 56, 0, 0, 0), (8, .iload_n 2, 0, 0, 0), (9, .ifCond .lt 52, 0, 0, 0), (12, .iload_n 2, 0, 0, 0), (13, .iconst 2, 0, 0, 0), (14, .if_icmp .ge 47, 0, 0, 0), (17, .aload_n 0, 0, 0, 0), (18, .getfield 86, 2, 80, 0), (21, .sipush 4000, 0, 0, 0), (24, .if_icmp .ge 37, 0, 0, 0), (27, .aload_n 0, 0, 0, 0), (28, .getfield 31, 2, 74, 0), (31, .aload_n 0, 0, 0, 0), (32, .getfield 86, 2, 80, 0), (35, .iload_n 3, 0, 0, 0), (36, .castore, 0, 0, 0), (37, .aload_n 0, 0, 0, 0), (38, .dup, 0, 0, 0), (39, .getfield 86, 2, 80, 0), (42, .iconst 1, 0, 0, 0), (43, .iadd, 0, 0, 0), (44, .putfield 86, 2, 80, 0), (47, .aload_n 0, 0, 0, 0), (48, .getfield 28, 2, 66, 0), (51, .iload_n 1, 0, 0, 0), (52, .iconst 2, 0, 0, 0), (53, .imul, 0, 0, 0), (54, .iload_n 2, 0, 0, 0), (55, .iadd, 0, 0, 0), (56, .dup2, 0, 0, 0), (57, .iaload, 0, 0, 0), (58, .iconst 1, 0, 0, 0), (59, .iadd, 0, 0, 0), (60, .iastore, 0, 0, 0)], 61),
  (61, [(61, .return_, 0, 0, 0)], 62)]
def xk2_2 : XB := [(0, [(0, .aload_n 0, 0, 0, 0), (1, .iload_n 1, 0, 0, 0), (2, .putfield 76, 2, 8, 0), (5, .aload_n 0, 0, 0, 0), (6, .iconst 0, 0, 0, 0), (7, .putfield 80, 2, 0, 0), (10, .aload_n 0, 0, 0, 0), (11, .iconst 0, 0, 0, 0), (12, .putfield 83, 2, 16, 0), (15, .aload_n 0, 0, 0, 0), (16, .iconst 0, 0, 0, 0), (17, .putfield 86, 2, 80, 0), (20, .return_, 0, 0, 0)], 21)]
def xk2_3 : XB := [(0, [(0, .aload_n 0, 0, 0, 0), (1, .getfield 129, 2, 96, 0), (4, .sipush 26000, 0, 0, 0), (7, .if_icmp .ge 23, 0, 0, 0), (10, .aload_n 0, 0, 0, 0), (11, .getfield 35, 2, 90, 0), (14, .aload_n 0, 0, 0, 0), (15, .getfield 129, 2, 96, 0), (18, .iload_n 1, 0, 0, 0), (19, .castore, 0, 0, 0), (20, .aload_n 0, 0, 0, 0), (21, .dup, 0, 0, 0), (22, .getfield 129, 2, 96, 0), (25, .iconst 1, 0, 0, 0), (26, .iadd, 0, 0, 0), (27, .putfield 129, 2, 96, 0)], 30),
  (30, [(30, .return_, 0, 0, 0)], 31)]
def xk2_4 : XB := [(0, [(0, .lload_n 1, 0, 0, 0), (1, .lconst 0, 0, 0, 0), (2, .lcmp, 0, 0, 0), (3, .ifCond .le 9, 0, 0, 0), (6, .aload_n 0, 0, 0, 0), (7, .bipush 46, 0, 0, 0), (9, .invokevirtual 138, 2, 193, 0)], 12),
  (12, [(12, .lload_n 1, 0, 0, 0), (13, .lstore_n 3, 0, 0, 0), (14, .ldc2_w 192, 0, 0, 100000), (17, .lstore 5, 0, 0, 0)], 19),
  (19, [(19, .lload 5, 0, 0, 0), (21, .lconst 0, 0, 0, 0), (22, .lcmp, 0, 0, 0), (23, .ifCond .le 39, 0, 0, 0), (26, .lload_n 3, 0, 0, 0), (27, .lconst 0, 0, 0, 0), (28, .lcmp, 0, 0, 0), (29, .ifCond .le 33, 0, 0, 0), (32, .aload_n 0, 0, 0, 0), (33, .ldc2_w 188, 0, 0, 48), (36, .lload_n 3, 0, 0, 0), (37, .lload 5, 0, 0, 0), (39, .ldiv, 0, 0, 0), (40, .ladd, 0, 0, 0), (41, .l2i, 0, 0, 0), (42, .i2c, 0, 0, 0), (43, .invokevirtual 138, 2, 193, 0), (46, .lload_n 3, 0, 0, 0), (47, .lload 5, 0, 0, 0), (49, .lrem, 0, 0, 0), (50, .lstore_n 3, 0, 0, 0), (51, .lload 5, 0, 0, 0), (53, .ldc2_w 190, 0, 0, 10), (56, .ldiv, 0, 0, 0), (57, .lstore 5, 0, 0, 0), (59, .goto (-40), 0, 0, 0)], 62),
  (62, [(62, .return_, 0, 0, 0)], 63)]
def xk2_5 : XB := [(0, [(0, .lload_n 1, 0, 0, 0), (1, .lconst 0, 0, 0, 0), (2, .lcmp, 0, 0, 0), (3, .ifCond .ge 9, 0, 0, 0), (6, .aload_n 0, 0, 0, 0), (7, .bipush 45, 0, 0, 0), (9, .invokevirtual 138, 2, 193, 0)], 12),
  (12, [(12, .lload_n 1, 0, 0, 0), (13, .invokestatic 171, 999, 16, 0), (16, .lstore 4, 0, 0, 0), (18, .iload_n 3, 0, 0, 0), (19, .ifCond .eq 26, 0, 0, 0), (22, .aload_n 0, 0, 0, 0), (23, .lload 4, 0, 0, 0), (25, .ldc2_w 177, 0, 0, 1000000), (28, .ldiv, 0, 0, 0), (29, .invokevirtual 179, 2, 641, 0), (32, .aload_n 0, 0, 0, 0), (33, .lload 4, 0, 0, 0), (35, .ldc2_w 177, 0, 0, 1000000), (38, .lrem, 0, 0, 0), (39, .invokevirtual 183, 2, 257, 0), (42, .goto 9, 0, 0, 0)], 45),
  (45, [(45, .aload_n 0, 0, 0, 0), (46, .lload 4, 0, 0, 0), (48, .invokevirtual 179, 2, 641, 0)], 51),
  (51, [(51, .return_, 0, 0, 0)], 52)]
def xk2_6 : XB := [(0, [(0, .aload_n 0, 0, 0, 0), (1, .aload_n 0, 0, 0, 0), (2, .getfield 11, 2, 26, 0), (5, .iload_n 1, 0, 0, 0), (6, .iaload, 0, 0, 0), (7, .invokestatic 153, 2, 1793, 0), (10, .invokevirtual 157, 2, 705, 0), (13, .aload_n 0, 0, 0, 0), (14, .getfield 11, 2, 26, 0), (17, .iload_n 1, 0, 0, 0), (18, .iaload, 0, 0, 0), (19, .invokestatic 161, 2, 769, 0), (22, .astore_n 2, 0, 0, 0), (23, .iconst 0, 0, 0, 0), (24, .istore_n 3, 0, 0, 0), (25, .iconst 0, 0, 0, 0), (26, .istore 4, 0, 0, 0), (28, .iconst 0, 0, 0, 0), (29, .istore 5, 0, 0, 0)], 31),
  (31, [(31, .iload 5, 0, 0, 0), (33, .aload_n 2, 0, 0, 0), (34, .invokevirtual 119, 999, 1, 0), (37, .if_icmp .ge 84, 0, 0, 0), (40, .aload_n 0, 0, 0, 0), (41, .bipush 32, 0, 0, 0), (43, .invokevirtual 138, 2, 193, 0), (46, .aload_n 2, 0, 0, 0), (47, .iload 5, 0, 0, 0), (49, .invokevirtual 125, 999, 2, 0), (52, .istore 6, 0, 0, 0), (54, .iload 6, 0, 0, 0), (56, .bipush 86, 0, 0, 0), (58, .if_icmp .ne 12, 0, 0, 0), (61, .aload_n 0, 0, 0, 0), (62, .bipush 51, 0, 0, 0), (64, .invokevirtual 138, 2, 193, 0), (67, .goto 48, 0, 0, 0)], 70),
  (70, [(70, .iload 6, 0, 0, 0), (72, .bipush 84, 0, 0, 0), (74, .if_icmp .ne 15, 0, 0, 0), (77, .aload_n 0, 0, 0, 0), (78, .iload_n 1, 0, 0, 0), (79, .iload_n 3, 0, 0, 0), (80, .invokevirtual 164, 2, 450, 0), (83, .iinc 3 1, 0, 0, 0), (86, .goto 29, 0, 0, 0)], 89),
  (89, [(89, .aload_n 0, 0, 0, 0), (90, .aload_n 0, 0, 0, 0), (91, .iload_n 1, 0, 0, 0), (92, .iload 4, 0, 0, 0), (94, .invokevirtual 107, 2, 1154, 0), (97, .iload 6, 0, 0, 0), (99, .bipush 78, 0, 0, 0), (101, .if_icmp .ne 7, 0, 0, 0), (104, .iconst 1, 0, 0, 0), (105, .goto 4, 0, 0, 0)], 108),
  (108, [(108, .iconst 0, 0, 0, 0)], 109),
  (109, [(109, .invokevirtual 167, 2, 322, 0), (112, .iinc 4 1, 0, 0, 0)], 115),
  (115, [(115, .iinc 5 1, 0, 0, 0), (118, .goto (-87), 0, 0, 0)], 121),
  (121, [(121, .return_, 0, 0, 0)], 122)]
def xk2_7 : XB := [(0, [(0, .aload_n 0, 0, 0, 0), (1, .bipush 34, 0, 0, 0), (3, .invokevirtual 138, 2, 193, 0), (6, .iconst 0, 0, 0, 0), (7, .istore_n 3, 0, 0, 0)], 8),
  (8, [(8, .iload_n 3, 0, 0, 0), (9, .aload_n 0, 0, 0, 0), (10, .iload_n 1, 0, 0, 0), (11, .iload_n 2, 0, 0, 0), (12, .invokevirtual 111, 2, 1666, 0), (15, .if_icmp .ge 44, 0, 0, 0), (18, .aload_n 0, 0, 0, 0), (19, .iload_n 1, 0, 0, 0), (20, .iload_n 2, 0, 0, 0), (21, .iload_n 3, 0, 0, 0), (22, .invokevirtual 115, 2, 1091, 0), (25, .istore 4, 0, 0, 0), (27, .iload 4, 0, 0, 0), (29, .bipush 34, 0, 0, 0), (31, .if_icmp .eq 10, 0, 0, 0), (34, .iload 4, 0, 0, 0), (36, .bipush 92, 0, 0, 0), (38, .if_icmp .ne 9, 0, 0, 0)], 41),
  (41, [(41, .aload_n 0, 0, 0, 0), (42, .bipush 92, 0, 0, 0), (44, .invokevirtual 138, 2, 193, 0)], 47),
  (47, [(47, .aload_n 0, 0, 0, 0), (48, .iload 4, 0, 0, 0), (50, .invokevirtual 138, 2, 193, 0), (53, .iinc 3 1, 0, 0, 0), (56, .goto (-48), 0, 0, 0)], 59),
  (59, [(59, .aload_n 0, 0, 0, 0), (60, .bipush 34, 0, 0, 0), (62, .invokevirtual 138, 2, 193, 0), (65, .return_, 0, 0, 0)], 66)]
def xk2_8 : XB := [(0, [(0, .iconst 0, 0, 0, 0), (1, .istore_n 3, 0, 0, 0)], 2),
  (2, [(2, .iload_n 3, 0, 0, 0), (3, .aload_n 0, 0, 0, 0), (4, .iload_n 1, 0, 0, 0), (5, .iload_n 2, 0, 0, 0), (6, .invokevirtual 111, 2, 1666, 0), (9, .if_icmp .ge 20, 0, 0, 0), (12, .aload_n 0, 0, 0, 0), (13, .aload_n 0, 0, 0, 0), (14, .iload_n 1, 0, 0, 0), (15, .iload_n 2, 0, 0, 0), (16, .iload_n 3, 0, 0, 0), (17, .invokevirtual 115, 2, 1091, 0), (20, .invokevirtual 138, 2, 193, 0), (23, .iinc 3 1, 0, 0, 0), (26, .goto (-24), 0, 0, 0)], 29),
  (29, [(29, .return_, 0, 0, 0)], 30)]
def xk2_9 : XB := [(0, [(0, .iconst 0, 0, 0, 0), (1, .istore_n 3, 0, 0, 0)], 2),
  (2, [(2, .iload_n 3, 0, 0, 0), (3, .iload_n 2, 0, 0, 0), (4, .if_icmp .ge 14, 0, 0, 0), (7, .aload_n 0, 0, 0, 0), (8, .iload_n 1, 0, 0, 0), (9, .invokevirtual 138, 2, 193, 0), (12, .iinc 3 1, 0, 0, 0), (15, .goto (-13), 0, 0, 0)], 18),
  (18, [(18, .return_, 0, 0, 0)], 19)]
def xk2_10 : XB := [(0, [(0, .iconst 0, 0, 0, 0), (1, .istore_n 3, 0, 0, 0), (2, .ldc2_w 186, 0, 0, 1000), (5, .lstore 4, 0, 0, 0)], 7),
  (7, [(7, .lload 4, 0, 0, 0), (9, .lconst 0, 0, 0, 0), (10, .lcmp, 0, 0, 0), (11, .ifCond .le 60, 0, 0, 0), (14, .iload_n 3, 0, 0, 0), (15, .ifCond .ne 17, 0, 0, 0), (18, .lload_n 1, 0, 0, 0), (19, .lload 4, 0, 0, 0), (21, .lcmp, 0, 0, 0), (22, .ifCond .ge 10, 0, 0, 0), (25, .lload 4, 0, 0, 0), (27, .lconst 1, 0, 0, 0), (28, .lcmp, 0, 0, 0), (29, .ifCond .ne 7, 0, 0, 0)], 32),
  (32, [(32, .iconst 1, 0, 0, 0), (33, .goto 4, 0, 0, 0)], 36),
  (36, [(36, .iconst 0, 0, 0, 0)], 37),
  (37, [(37, .istore_n 3, 0, 0, 0), (38, .iload_n 3, 0, 0, 0), (39, .ifCond .eq 21, 0, 0, 0), (42, .aload_n 0, 0, 0, 0), (43, .ldc2_w 188, 0, 0, 48), (46, .lload_n 1, 0, 0, 0), (47, .lload 4, 0, 0, 0), (49, .ldiv, 0, 0, 0), (50, .ldc2_w 190, 0, 0, 10), (53, .lrem, 0, 0, 0), (54, .ladd, 0, 0, 0), (55, .l2i, 0, 0, 0), (56, .i2c, 0, 0, 0), (57, .invokevirtual 138, 2, 193, 0)], 60),
  (60, [(60, .lload 4, 0, 0, 0), (62, .ldc2_w 190, 0, 0, 10), (65, .ldiv, 0, 0, 0), (66, .lstore 4, 0, 0, 0), (68, .goto (-61), 0, 0, 0)], 71),
  (71, [(71, .return_, 0, 0, 0)], 72)]
def xk2_11 : XB := [(0, [(0, .iconst 0, 0, 0, 0), (1, .istore_n 2, 0, 0, 0)], 2),
  (2, [(2, .iload_n 2, 0, 0, 0), (3, .aload_n 1, 0, 0, 0), (4, .invokevirtual 119, 999, 1, 0), (7, .if_icmp .ge 18, 0, 0, 0), (10, .aload_n 0, 0, 0, 0), (11, .aload_n 1, 0, 0, 0), (12, .iload_n 2, 0, 0, 0), (13, .invokevirtual 125, 999, 2, 0), (16, .invokevirtual 138, 2, 193, 0), (19, .iinc 2 1, 0, 0, 0), (22, .goto (-20), 0, 0, 0)], 25),
  (25, [(25, .return_, 0, 0, 0)], 26)]
def xk2_12 : XB := [(0, [(0, .iload_n 0, 0, 0, 0), (1, .tableswitch 78 0 8 #[51, 54, 57, 60, 63, 66, 69, 72, 75], 0, 0, 0)], 52),
  (52, [(52, .ldc 38, 1, 20, 0), (54, .areturn, 0, 0, 0)], 55),
  (55, [(55, .ldc 40, 1, 21, 0), (57, .areturn, 0, 0, 0)], 58),
  (58, [(58, .ldc 42, 1, 22, 0), (60, .areturn, 0, 0, 0)], 61),
  (61, [(61, .ldc 44, 1, 23, 0), (63, .areturn, 0, 0, 0)], 64),
  (64, [(64, .ldc 46, 1, 24, 0), (66, .areturn, 0, 0, 0)], 67),
  (67, [(67, .ldc 48, 1, 25, 0), (69, .areturn, 0, 0, 0)], 70),
  (70, [(70, .ldc 50, 1, 26, 0), (72, .areturn, 0, 0, 0)], 73),
  (73, [(73, .ldc 52, 1, 27, 0), (75, .areturn, 0, 0, 0)], 76),
  (76, [(76, .ldc 54, 1, 28, 0), (78, .areturn, 0, 0, 0)], 79),
  (79, [(79, .ldc 56, 1, 19, 0), (81, .areturn, 0, 0, 0)], 82)]
def xk2_13 : XB := [(0, [(0, .aload_n 0, 0, 0, 0), (1, .invokespecial 3, 999, 0, 0), (4, .aload_n 0, 0, 0, 0), (5, .sipush 200, 0, 0, 0), (8, .newarray .int, 100, 0, 0), (10, .putfield 11, 2, 26, 0), (13, .aload_n 0, 0, 0, 0), (14, .sipush 200, 0, 0, 0), (17, .newarray .int, 100, 0, 0), (19, .putfield 15, 2, 34, 0), (22, .aload_n 0, 0, 0, 0), (23, .sipush 200, 0, 0, 0), (26, .newarray .int, 100, 0, 0), (28, .putfield 18, 2, 42, 0), (31, .aload_n 0, 0, 0, 0), (32, .sipush 1000, 0, 0, 0), (35, .newarray .long, 101, 0, 0), (37, .putfield 21, 2, 50, 0), (40, .aload_n 0, 0, 0, 0), (41, .sipush 400, 0, 0, 0), (44, .newarray .int, 100, 0, 0), (46, .putfield 25, 2, 58, 0), (49, .aload_n 0, 0, 0, 0), (50, .sipush 400, 0, 0, 0), (53, .newarray .int, 100, 0, 0), (55, .putfield 28, 2, 66, 0), (58, .aload_n 0, 0, 0, 0), (59, .sipush 4000, 0, 0, 0), (62, .newarray .char, 104, 0, 0), (64, .putfield 31, 2, 74, 0), (67, .aload_n 0, 0, 0, 0), (68, .sipush 26000, 0, 0, 0), (71, .newarray .char, 104, 0, 0), (73, .putfield 35, 2, 90, 0), (76, .return_, 0, 0, 0)], 77)]
def xk2_14 : XB := [(0, [(0, .iload_n 1, 0, 0, 0), (1, .ifCond .lt 15, 0, 0, 0), (4, .iload_n 1, 0, 0, 0), (5, .aload_n 0, 0, 0, 0), (6, .getfield 80, 2, 0, 0), (9, .if_icmp .ge 7, 0, 0, 0), (12, .iconst 1, 0, 0, 0), (13, .goto 4, 0, 0, 0)], 16),
  (16, [(16, .iconst 0, 0, 0, 0)], 17),
  (17, [(17, .ireturn, 0, 0, 0)], 18)]
def xk2_15 : XB := [(0, [(0, .aload_n 0, 0, 0, 0), (1, .iload_n 1, 0, 0, 0), (2, .iconst 0, 0, 0, 0), (3, .invokevirtual 99, 2, 1538, 0), (6, .iload_n 3, 0, 0, 0), (7, .istore 5, 0, 0, 0)], 9),
  (9, [(9, .iload 5, 0, 0, 0), (11, .iload 4, 0, 0, 0), (13, .if_icmp .ge 26, 0, 0, 0), (16, .iload 5, 0, 0, 0), (18, .aload_n 2, 0, 0, 0), (19, .arraylength, 0, 0, 0), (20, .if_icmp .ge 19, 0, 0, 0), (23, .aload_n 0, 0, 0, 0), (24, .iload_n 1, 0, 0, 0), (25, .iconst 0, 0, 0, 0), (26, .aload_n 2, 0, 0, 0), (27, .iload 5, 0, 0, 0), (29, .caload, 0, 0, 0), (30, .invokevirtual 103, 2, 67, 0), (33, .iinc 5 1, 0, 0, 0), (36, .goto (-27), 0, 0, 0)], 39),
  (39, [(39, .aload_n 0, 0, 0, 0), (40, .dup, 0, 0, 0), (41, .getfield 83, 2, 16, 0), (44, .iload 4, 0, 0, 0), (46, .iload_n 3, 0, 0, 0), (47, .isub, 0, 0, 0), (48, .iadd, 0, 0, 0), (49, .putfield 83, 2, 16, 0), (52, .return_, 0, 0, 0)], 53)]
def xk2_16 : XB := [(0, [(0, .aload_n 0, 0, 0, 0), (1, .iload_n 1, 0, 0, 0), (2, .invokevirtual 95, 2, 897, 0), (5, .ifCond .eq 12, 0, 0, 0), (8, .aload_n 0, 0, 0, 0), (9, .getfield 11, 2, 26, 0), (12, .iload_n 1, 0, 0, 0), (13, .iaload, 0, 0, 0), (14, .goto 4, 0, 0, 0)], 17),
  (17, [(17, .iconst (-1), 0, 0, 0)], 18),
  (18, [(18, .ireturn, 0, 0, 0)], 19)]
def xk2_17 : XB := [(0, [(0, .aload_n 0, 0, 0, 0), (1, .getfield 31, 2, 74, 0), (4, .aload_n 0, 0, 0, 0), (5, .getfield 25, 2, 58, 0), (8, .iload_n 1, 0, 0, 0), (9, .iconst 2, 0, 0, 0), (10, .imul, 0, 0, 0), (11, .iload_n 2, 0, 0, 0), (12, .iadd, 0, 0, 0), (13, .iaload, 0, 0, 0), (14, .iload_n 3, 0, 0, 0), (15, .iadd, 0, 0, 0), (16, .caload, 0, 0, 0), (17, .ireturn, 0, 0, 0)], 18)]
def xk2_18 : XB := [(0, [(0, .iload_n 2, 0, 0, 0), (1, .ifCond .lt 29, 0, 0, 0), (4, .iload_n 2, 0, 0, 0), (5, .iconst 5, 0, 0, 0), (6, .if_icmp .ge 24, 0, 0, 0), (9, .aload_n 0, 0, 0, 0), (10, .iload_n 1, 0, 0, 0), (11, .invokevirtual 95, 2, 897, 0), (14, .ifCond .eq 16, 0, 0, 0), (17, .aload_n 0, 0, 0, 0), (18, .getfield 21, 2, 50, 0), (21, .iload_n 1, 0, 0, 0), (22, .iconst 5, 0, 0, 0), (23, .imul, 0, 0, 0), (24, .iload_n 2, 0, 0, 0), (25, .iadd, 0, 0, 0), (26, .laload, 0, 0, 0), (27, .goto 4, 0, 0, 0)], 30),
  (30, [(30, .lconst 0, 0, 0, 0)], 31),
  (31, [(31, .lreturn, 0, 0, 0)], 32)]
def xk2_19 : XB := [(0, [(0, .iload_n 1, 0, 0, 0), (1, .ifCond .lt 20, 0, 0, 0), (4, .iload_n 1, 0, 0, 0), (5, .aload_n 0, 0, 0, 0), (6, .getfield 129, 2, 96, 0), (9, .if_icmp .ge 12, 0, 0, 0), (12, .aload_n 0, 0, 0, 0), (13, .getfield 35, 2, 90, 0), (16, .iload_n 1, 0, 0, 0), (17, .caload, 0, 0, 0), (18, .goto 4, 0, 0, 0)], 21),
  (21, [(21, .iconst (-1), 0, 0, 0)], 22),
  (22, [(22, .ireturn, 0, 0, 0)], 23)]
def xk2_20 : XB := [(0, [(0, .aload_n 0, 0, 0, 0), (1, .iload_n 1, 0, 0, 0), (2, .invokevirtual 95, 2, 897, 0), (5, .ifCond .eq 12, 0, 0, 0), (8, .aload_n 0, 0, 0, 0), (9, .getfield 15, 2, 34, 0), (12, .iload_n 1, 0, 0, 0), (13, .iaload, 0, 0, 0), (14, .goto 4, 0, 0, 0)], 17),
  (17, [(17, .iconst (-1), 0, 0, 0)], 18),
  (18, [(18, .ireturn, 0, 0, 0)], 19)]
def xk2_21 : XB := [(0, [(0, .aload_n 0, 0, 0, 0), (1, .iload_n 1, 0, 0, 0), (2, .iload_n 2, 0, 0, 0), (3, .invokevirtual 107, 2, 1154, 0), (6, .l2i, 0, 0, 0), (7, .ireturn, 0, 0, 0)], 8)]
def xk2_22 : XB := [(0, [(0, .aload_n 0, 0, 0, 0), (1, .iload_n 1, 0, 0, 0), (2, .iload_n 2, 0, 0, 0), (3, .invokevirtual 111, 2, 1666, 0), (6, .aload_n 0, 0, 0, 0), (7, .iload_n 3, 0, 0, 0), (8, .iload 4, 0, 0, 0), (10, .invokevirtual 111, 2, 1666, 0), (13, .if_icmp .ne 7, 0, 0, 0), (16, .iconst 1, 0, 0, 0), (17, .goto 4, 0, 0, 0)], 20),
  (20, [(20, .iconst 0, 0, 0, 0)], 21),
  (21, [(21, .istore 5, 0, 0, 0), (23, .iconst 0, 0, 0, 0), (24, .istore 6, 0, 0, 0)], 26),
  (26, [(26, .iload 6, 0, 0, 0), (28, .aload_n 0, 0, 0, 0), (29, .iload_n 1, 0, 0, 0), (30, .iload_n 2, 0, 0, 0), (31, .invokevirtual 111, 2, 1666, 0), (34, .if_icmp .ge 41, 0, 0, 0), (37, .iload 5, 0, 0, 0), (39, .ifCond .eq 36, 0, 0, 0), (42, .aload_n 0, 0, 0, 0), (43, .iload_n 1, 0, 0, 0), (44, .iload_n 2, 0, 0, 0), (45, .iload 6, 0, 0, 0), (47, .invokevirtual 115, 2, 1091, 0), (50, .aload_n 0, 0, 0, 0), (51, .iload_n 3, 0, 0, 0), (52, .iload 4, 0, 0, 0), (54, .iload 6, 0, 0, 0), (56, .invokevirtual 115, 2, 1091, 0), (59, .if_icmp .ne 7, 0, 0, 0), (62, .iconst 1, 0, 0, 0), (63, .goto 4, 0, 0, 0)], 66),
  (66, [(66, .iconst 0, 0, 0, 0)], 67),
  (67, [(67, .istore 5, 0, 0, 0), (69, .iinc 6 1, 0, 0, 0), (72, .goto (-46), 0, 0, 0)], 75),
  (75, [(75, .iload 5, 0, 0, 0), (77, .ireturn, 0, 0, 0)], 78)]
def xk2_23 : XB := [(0, [(0, .aload_n 0, 0, 0, 0), (1, .iload_n 1, 0, 0, 0), (2, .invokevirtual 95, 2, 897, 0), (5, .ifCond .eq 23, 0, 0, 0), (8, .iload_n 2, 0, 0, 0), (9, .ifCond .lt 19, 0, 0, 0), (12, .iload_n 2, 0, 0, 0), (13, .iconst 5, 0, 0, 0), (14, .if_icmp .ge 14, 0, 0, 0), (17, .aload_n 0, 0, 0, 0), (18, .getfield 21, 2, 50, 0), (21, .iload_n 1, 0, 0, 0), (22, .iconst 5, 0, 0, 0), (23, .imul, 0, 0, 0), (24, .iload_n 2, 0, 0, 0), (25, .iadd, 0, 0, 0), (26, .lload_n 3, 0, 0, 0), (27, .lastore, 0, 0, 0)], 28),
  (28, [(28, .return_, 0, 0, 0)], 29)]
def xk2_24 : XB := [(0, [(0, .aload_n 0, 0, 0, 0), (1, .iload_n 1, 0, 0, 0), (2, .invokevirtual 95, 2, 897, 0), (5, .ifCond .eq 26, 0, 0, 0), (8, .iload_n 2, 0, 0, 0), (9, .ifCond .lt 22, 0, 0, 0), (12, .iload_n 2, 0, 0, 0), (13, .iconst 2, 0, 0, 0), (14, .if_icmp .ge 17, 0, 0, 0), (17, .aload_n 0, 0, 0, 0), (18, .getfield 25, 2, 58, 0), (21, .iload_n 1, 0, 0, 0), (22, .iconst 2, 0, 0, 0), (23, .imul, 0, 0, 0), (24, .iload_n 2, 0, 0, 0), (25, .iadd, 0, 0, 0), (26, .aload_n 0, 0, 0, 0), (27, .getfield 86, 2, 80, 0), (30, .iastore, 0, 0, 0)], 31),
  (31, [(31, .return_, 0, 0, 0)], 32)]
def xk2_25 : XB := [(0, [(0, .aload_n 0, 0, 0, 0), (1, .iload_n 1, 0, 0, 0), (2, .iload_n 2, 0, 0, 0), (3, .invokevirtual 111, 2, 1666, 0), (6, .aload_n 3, 0, 0, 0), (7, .invokevirtual 119, 999, 1, 0), (10, .if_icmp .ne 7, 0, 0, 0), (13, .iconst 1, 0, 0, 0), (14, .goto 4, 0, 0, 0)], 17),
  (17, [(17, .iconst 0, 0, 0, 0)], 18),
  (18, [(18, .istore 4, 0, 0, 0), (20, .iconst 0, 0, 0, 0), (21, .istore 5, 0, 0, 0)], 23),
  (23, [(23, .iload 5, 0, 0, 0), (25, .aload_n 3, 0, 0, 0), (26, .invokevirtual 119, 999, 1, 0), (29, .if_icmp .ge 38, 0, 0, 0), (32, .iload 4, 0, 0, 0), (34, .ifCond .eq 33, 0, 0, 0), (37, .aload_n 0, 0, 0, 0), (38, .iload_n 1, 0, 0, 0), (39, .iload_n 2, 0, 0, 0), (40, .iload 5, 0, 0, 0), (42, .invokevirtual 115, 2, 1091, 0), (45, .aload_n 3, 0, 0, 0), (46, .iload 5, 0, 0, 0), (48, .invokevirtual 125, 999, 2, 0), (51, .if_icmp .ne 7, 0, 0, 0), (54, .iconst 1, 0, 0, 0), (55, .goto 4, 0, 0, 0)], 58),
  (58, [(58, .iconst 0, 0, 0, 0)], 59),
  (59, [(59, .istore 4, 0, 0, 0), (61, .iinc 5 1, 0, 0, 0), (64, .goto (-41), 0, 0, 0)], 67),
  (67, [(67, .iload 4, 0, 0, 0), (69, .ireturn, 0, 0, 0)], 70)]
def xk2_26 : XB := [(0, [(0, .aload_n 0, 0, 0, 0), (1, .iload_n 1, 0, 0, 0), (2, .invokevirtual 95, 2, 897, 0), (5, .ifCond .eq 16, 0, 0, 0), (8, .aload_n 0, 0, 0, 0), (9, .getfield 28, 2, 66, 0), (12, .iload_n 1, 0, 0, 0), (13, .iconst 2, 0, 0, 0), (14, .imul, 0, 0, 0), (15, .iload_n 2, 0, 0, 0), (16, .iadd, 0, 0, 0), (17, .iaload, 0, 0, 0), (18, .goto 4, 0, 0, 0)], 21),
  (21, [(21, .iconst 0, 0, 0, 0)], 22),
  (22, [(22, .ireturn, 0, 0, 0)], 23)]
def xk2_27 : XB := [(0, [(0, .iload_n 3, 0, 0, 0), (1, .ifCond .lt 23, 0, 0, 0), (4, .iload_n 3, 0, 0, 0), (5, .aload_n 0, 0, 0, 0), (6, .iload_n 1, 0, 0, 0), (7, .iload_n 2, 0, 0, 0), (8, .invokevirtual 111, 2, 1666, 0), (11, .if_icmp .ge 13, 0, 0, 0), (14, .aload_n 0, 0, 0, 0), (15, .iload_n 1, 0, 0, 0), (16, .iload_n 2, 0, 0, 0), (17, .iload_n 3, 0, 0, 0), (18, .invokevirtual 115, 2, 1091, 0), (21, .goto 4, 0, 0, 0)], 24),
  (24, [(24, .iconst (-1), 0, 0, 0)], 25),
  (25, [(25, .ireturn, 0, 0, 0)], 26)]
def xk2_28 : XB := [(0, [(0, .iload_n 0, 0, 0, 0), (1, .tableswitch 78 0 8 #[51, 54, 57, 60, 63, 66, 69, 72, 75], 0, 0, 0)], 52),
  (52, [(52, .ldc 58, 1, 10, 0), (54, .areturn, 0, 0, 0)], 55),
  (55, [(55, .ldc 60, 1, 11, 0), (57, .areturn, 0, 0, 0)], 58),
  (58, [(58, .ldc 62, 1, 12, 0), (60, .areturn, 0, 0, 0)], 61),
  (61, [(61, .ldc 64, 1, 13, 0), (63, .areturn, 0, 0, 0)], 64),
  (64, [(64, .ldc 66, 1, 14, 0), (66, .areturn, 0, 0, 0)], 67),
  (67, [(67, .ldc 68, 1, 15, 0), (69, .areturn, 0, 0, 0)], 70),
  (70, [(70, .ldc 70, 1, 16, 0), (72, .areturn, 0, 0, 0)], 73),
  (73, [(73, .ldc 72, 1, 17, 0), (75, .areturn, 0, 0, 0)], 76),
  (76, [(76, .ldc 74, 1, 18, 0), (78, .areturn, 0, 0, 0)], 79),
  (79, [(79, .ldc 56, 1, 19, 0), (81, .areturn, 0, 0, 0)], 82)]
def xk2_29 : XB := [(0, [(0, .iconst 0, 0, 0, 0), (1, .istore_n 1, 0, 0, 0)], 2),
  (2, [(2, .iload_n 1, 0, 0, 0), (3, .aload_n 0, 0, 0, 0), (4, .getfield 80, 2, 0, 0), (7, .if_icmp .ge 52, 0, 0, 0), (10, .aload_n 0, 0, 0, 0), (11, .bipush 46, 0, 0, 0), (13, .aload_n 0, 0, 0, 0), (14, .getfield 18, 2, 42, 0), (17, .iload_n 1, 0, 0, 0), (18, .iaload, 0, 0, 0), (19, .invokevirtual 142, 2, 578, 0), (22, .aload_n 0, 0, 0, 0), (23, .getfield 11, 2, 26, 0), (26, .iload_n 1, 0, 0, 0), (27, .iaload, 0, 0, 0), (28, .bipush 9, 0, 0, 0), (30, .if_icmp .ne 12, 0, 0, 0), (33, .aload_n 0, 0, 0, 0), (34, .iload_n 1, 0, 0, 0), (35, .iconst 0, 0, 0, 0), (36, .invokevirtual 146, 2, 514, 0), (39, .goto 8, 0, 0, 0)], 42),
  (42, [(42, .aload_n 0, 0, 0, 0), (43, .iload_n 1, 0, 0, 0), (44, .invokevirtual 149, 2, 385, 0)], 47),
  (47, [(47, .aload_n 0, 0, 0, 0), (48, .bipush 10, 0, 0, 0), (50, .invokevirtual 138, 2, 193, 0), (53, .iinc 1 1, 0, 0, 0), (56, .goto (-54), 0, 0, 0)], 59),
  (59, [(59, .return_, 0, 0, 0)], 60)]
def xk2_30 : XB := [(0, [(0, .iconst 0, 0, 0, 0), (1, .istore_n 1, 0, 0, 0), (2, .iconst 0, 0, 0, 0), (3, .istore_n 2, 0, 0, 0)], 4),
  (4, [(4, .iload_n 2, 0, 0, 0), (5, .aload_n 0, 0, 0, 0), (6, .getfield 80, 2, 0, 0), (9, .if_icmp .ge 87, 0, 0, 0)], 12),
  (12, [(12, .iload_n 1, 0, 0, 0), (13, .aload_n 0, 0, 0, 0), (14, .getfield 18, 2, 42, 0), (17, .iload_n 2, 0, 0, 0), (18, .iaload, 0, 0, 0), (19, .if_icmp .le 15, 0, 0, 0), (22, .aload_n 0, 0, 0, 0), (23, .bipush 41, 0, 0, 0), (25, .invokevirtual 138, 2, 193, 0), (28, .iinc 1 (-1), 0, 0, 0), (31, .goto (-19), 0, 0, 0)], 34),
  (34, [(34, .iload_n 2, 0, 0, 0), (35, .ifCond .le 21, 0, 0, 0), (38, .aload_n 0, 0, 0, 0), (39, .bipush 10, 0, 0, 0), (41, .invokevirtual 138, 2, 193, 0), (44, .aload_n 0, 0, 0, 0), (45, .bipush 32, 0, 0, 0), (47, .aload_n 0, 0, 0, 0), (48, .getfield 18, 2, 42, 0), (51, .iload_n 2, 0, 0, 0), (52, .iaload, 0, 0, 0), (53, .invokevirtual 142, 2, 578, 0)], 56),
  (56, [(56, .aload_n 0, 0, 0, 0), (57, .getfield 11, 2, 26, 0), (60, .iload_n 2, 0, 0, 0), (61, .iaload, 0, 0, 0), (62, .bipush 9, 0, 0, 0), (64, .if_icmp .ne 12, 0, 0, 0), (67, .aload_n 0, 0, 0, 0), (68, .iload_n 2, 0, 0, 0), (69, .iconst 0, 0, 0, 0), (70, .invokevirtual 146, 2, 514, 0), (73, .goto 17, 0, 0, 0)], 76),
  (76, [(76, .aload_n 0, 0, 0, 0), (77, .bipush 40, 0, 0, 0), (79, .invokevirtual 138, 2, 193, 0), (82, .aload_n 0, 0, 0, 0), (83, .iload_n 2, 0, 0, 0), (84, .invokevirtual 149, 2, 385, 0), (87, .iinc 1 1, 0, 0, 0)], 90),
  (90, [(90, .iinc 2 1, 0, 0, 0), (93, .goto (-89), 0, 0, 0)], 96),
  (96, [(96, .aload_n 0, 0, 0, 0), (97, .bipush 41, 0, 0, 0), (99, .iload_n 1, 0, 0, 0), (100, .invokevirtual 142, 2, 578, 0), (103, .aload_n 0, 0, 0, 0), (104, .bipush 10, 0, 0, 0), (106, .invokevirtual 138, 2, 193, 0), (109, .return_, 0, 0, 0)], 110)]
def xk2_31 : XB := [(0, [(0, .aload_n 0, 0, 0, 0), (1, .iconst 0, 0, 0, 0), (2, .putfield 129, 2, 96, 0), (5, .aload_n 0, 0, 0, 0), (6, .getfield 76, 2, 8, 0), (9, .ifCond .ne 10, 0, 0, 0), (12, .aload_n 0, 0, 0, 0), (13, .invokevirtual 132, 2, 1920, 0), (16, .goto 7, 0, 0, 0)], 19),
  (19, [(19, .aload_n 0, 0, 0, 0), (20, .invokevirtual 135, 2, 1856, 0)], 23),
  (23, [(23, .return_, 0, 0, 0)], 24)]
def xk2 : List XB := [xk2_0, xk2_1, xk2_2, xk2_3, xk2_4, xk2_5, xk2_6, xk2_7, xk2_8, xk2_9, xk2_10, xk2_11, xk2_12, xk2_13, xk2_14, xk2_15, xk2_16, xk2_17, xk2_18, xk2_19, xk2_20, xk2_21, xk2_22, xk2_23, xk2_24, xk2_25, xk2_26, xk2_27, xk2_28, xk2_29, xk2_30, xk2_31]
theorem xr2_0 : xRowOk (2, xmn 2 0, prog_4_method_5_code, 5, (some .int), xk2_0) = true := xRowD_ok (by decide +kernel)
theorem xr2_1 : xRowOk (2, xmn 2 1, prog_4_method_9_code, 4, none, xk2_1) = true := xRowD_ok (by decide +kernel)
theorem xr2_2 : xRowOk (2, xmn 2 2, prog_4_method_4_code, 2, none, xk2_2) = true := xRowD_ok (by decide +kernel)
theorem xr2_3 : xRowOk (2, xmn 2 3, prog_4_method_32_code, 2, none, xk2_3) = true := xRowD_ok (by decide +kernel)
theorem xr2_4 : xRowOk (2, xmn 2 4, prog_4_method_27_code, 7, none, xk2_4) = true := xRowD_ok (by decide +kernel)
theorem xr2_5 : xRowOk (2, xmn 2 5, prog_4_method_25_code, 6, none, xk2_5) = true := xRowD_ok (by decide +kernel)
theorem xr2_6 : xRowOk (2, xmn 2 6, prog_4_method_24_code, 7, none, xk2_6) = true := xRowD_ok (by decide +kernel)
theorem xr2_7 : xRowOk (2, xmn 2 7, prog_4_method_28_code, 5, none, xk2_7) = true := xRowD_ok (by decide +kernel)
theorem xr2_8 : xRowOk (2, xmn 2 8, prog_4_method_29_code, 4, none, xk2_8) = true := xRowD_ok (by decide +kernel)
theorem xr2_9 : xRowOk (2, xmn 2 9, prog_4_method_31_code, 4, none, xk2_9) = true := xRowD_ok (by decide +kernel)
theorem xr2_10 : xRowOk (2, xmn 2 10, prog_4_method_26_code, 6, none, xk2_10) = true := xRowD_ok (by decide +kernel)
theorem xr2_11 : xRowOk (2, xmn 2 11, prog_4_method_30_code, 3, none, xk2_11) = true := xRowD_ok (by decide +kernel)
theorem xr2_12 : xRowOk (2, xmn 2 12, prog_4_method_2_code, 1, (some (.object "java/lang/String")), xk2_12) = true := xRowD_ok (by decide +kernel)
theorem xr2_13 : xRowOk (2, xmn 2 13, prog_4_method_1_code, 1, none, xk2_13) = true := xRowD_ok (by decide +kernel)
theorem xr2_14 : xRowOk (2, xmn 2 14, prog_4_method_6_code, 2, (some .boolean), xk2_14) = true := xRowD_ok (by decide +kernel)
theorem xr2_15 : xRowOk (2, xmn 2 15, prog_4_method_10_code, 6, none, xk2_15) = true := xRowD_ok (by decide +kernel)
theorem xr2_16 : xRowOk (2, xmn 2 16, prog_4_method_11_code, 2, (some .int), xk2_16) = true := xRowD_ok (by decide +kernel)
theorem xr2_17 : xRowOk (2, xmn 2 17, prog_4_method_16_code, 4, (some .char), xk2_17) = true := xRowD_ok (by decide +kernel)
theorem xr2_18 : xRowOk (2, xmn 2 18, prog_4_method_13_code, 3, (some .long), xk2_18) = true := xRowD_ok (by decide +kernel)
theorem xr2_19 : xRowOk (2, xmn 2 19, prog_4_method_20_code, 2, (some .int), xk2_19) = true := xRowD_ok (by decide +kernel)
theorem xr2_20 : xRowOk (2, xmn 2 20, prog_4_method_12_code, 2, (some .int), xk2_20) = true := xRowD_ok (by decide +kernel)
theorem xr2_21 : xRowOk (2, xmn 2 21, prog_4_method_14_code, 3, (some .int), xk2_21) = true := xRowD_ok (by decide +kernel)
theorem xr2_22 : xRowOk (2, xmn 2 22, prog_4_method_19_code, 7, (some .boolean), xk2_22) = true := xRowD_ok (by decide +kernel)
theorem xr2_23 : xRowOk (2, xmn 2 23, prog_4_method_7_code, 5, none, xk2_23) = true := xRowD_ok (by decide +kernel)
theorem xr2_24 : xRowOk (2, xmn 2 24, prog_4_method_8_code, 3, none, xk2_24) = true := xRowD_ok (by decide +kernel)
theorem xr2_25 : xRowOk (2, xmn 2 25, prog_4_method_18_code, 6, (some .boolean), xk2_25) = true := xRowD_ok (by decide +kernel)
theorem xr2_26 : xRowOk (2, xmn 2 26, prog_4_method_15_code, 3, (some .int), xk2_26) = true := xRowD_ok (by decide +kernel)
theorem xr2_27 : xRowOk (2, xmn 2 27, prog_4_method_17_code, 4, (some .int), xk2_27) = true := xRowD_ok (by decide +kernel)
theorem xr2_28 : xRowOk (2, xmn 2 28, prog_4_method_3_code, 1, (some (.object "java/lang/String")), xk2_28) = true := xRowD_ok (by decide +kernel)
theorem xr2_29 : xRowOk (2, xmn 2 29, prog_4_method_23_code, 2, none, xk2_29) = true := xRowD_ok (by decide +kernel)
theorem xr2_30 : xRowOk (2, xmn 2 30, prog_4_method_22_code, 3, none, xk2_30) = true := xRowD_ok (by decide +kernel)
theorem xr2_31 : xRowOk (2, xmn 2 31, prog_4_method_21_code, 1, none, xk2_31) = true := xRowD_ok (by decide +kernel)
