/-! the code of class 15, in stretches -/
def xk15_0 : XB := [(0, [(0, .aload_n 0, 0, 0, 0), (1, .getfield 58, 15, 16, 0), (4, .bipush 60, 0, 0, 0), (6, .if_icmp .ne 5, 0, 0, 0), (9, .iconst (-1), 0, 0, 0), (10, .ireturn, 0, 0, 0)], 11),
  (11, [(11, .aload_n 0, 0, 0, 0), (12, .getfield 7, 15, 26, 0), (15, .aload_n 0, 0, 0, 0), (16, .getfield 58, 15, 16, 0), (19, .iconst 1, 0, 0, 0), (20, .bastore, 0, 0, 0), (21, .aload_n 0, 0, 0, 0), (22, .getfield 13, 15, 34, 0), (25, .aload_n 0, 0, 0, 0), (26, .getfield 58, 15, 16, 0), (29, .iload_n 1, 0, 0, 0), (30, .iastore, 0, 0, 0), (31, .aload_n 0, 0, 0, 0), (32, .getfield 17, 15, 42, 0), (35, .aload_n 0, 0, 0, 0), (36, .getfield 58, 15, 16, 0), (39, .iload_n 2, 0, 0, 0), (40, .iastore, 0, 0, 0), (41, .aload_n 0, 0, 0, 0), (42, .getfield 20, 15, 50, 0), (45, .aload_n 0, 0, 0, 0), (46, .getfield 58, 15, 16, 0), (49, .lload_n 3, 0, 0, 0), (50, .lastore, 0, 0, 0), (51, .aload_n 0, 0, 0, 0), (52, .getfield 24, 15, 58, 0), (55, .aload_n 0, 0, 0, 0), (56, .getfield 58, 15, 16, 0), (59, .lload 5, 0, 0, 0), (61, .lastore, 0, 0, 0), (62, .aload_n 0, 0, 0, 0), (63, .getfield 27, 15, 66, 0), (66, .aload_n 0, 0, 0, 0), (67, .getfield 58, 15, 16, 0), (70, .lload 7, 0, 0, 0), (72, .lastore, 0, 0, 0), (73, .aload_n 0, 0, 0, 0), (74, .getfield 30, 15, 74, 0), (77, .aload_n 0, 0, 0, 0), (78, .getfield 58, 15, 16, 0), (81, .lload 9, 0, 0, 0), (83, .lastore, 0, 0, 0), (84, .aload_n 0, 0, 0, 0), (85, .getfield 33, 15, 82, 0), (88, .aload_n 0, 0, 0, 0), (89, .getfield 58, 15, 16, 0), (92, .lload 11, 0, 0, 0), (94, .lastore, 0, 0, 0), (95, .aload_n 0, 0, 0, 0), (96, .getfield 36, 15, 90, 0), (99, .aload_n 0, 0, 0, 0), (100, .getfield 58, 15, 16, 0), (103, .iload 13, 0, 0, 0), (105, .iastore, 0, 0, 0), (106, .aload_n 0, 0, 0, 0), (107, .dup, 0, 0, 0), (108, .getfield 58, 15, 16, 0), (111, .iconst 1, 0, 0, 0), (112, .iadd, 0, 0, 0), (113, .putfield 58, 15, 16, 0), (116, .aload_n 0, 0, 0, 0), (117, .getfield 58, 15, 16, 0), (120, .iconst 1, 0, 0, 0), (121, .isub, 0, 0, 0), (122, .ireturn, 0, 0, 0)], 123)]
def xk15_1 : XB := [(0, [(0, .aload_n 0, 0, 0, 0), (1, .invokevirtual 101, 15, 320, 0), (4, .pop, 0, 0, 0), (5, .iconst 0, 0, 0, 0), (6, .istore_n 2, 0, 0, 0)], 7),
  (7, [(7, .iload_n 2, 0, 0, 0), (8, .aload_n 0, 0, 0, 0), (9, .getfield 58, 15, 16, 0), (12, .if_icmp .ge 21, 0, 0, 0), (15, .aload_n 0, 0, 0, 0), (16, .getfield 48, 15, 122, 0), (19, .iload_n 2, 0, 0, 0), (20, .aload_n 0, 0, 0, 0), (21, .getfield 45, 15, 114, 0), (24, .iload_n 2, 0, 0, 0), (25, .iaload, 0, 0, 0), (26, .iastore, 0, 0, 0), (27, .iinc 2 1, 0, 0, 0), (30, .goto (-23), 0, 0, 0)], 33),
  (33, [(33, .iconst 0, 0, 0, 0), (34, .istore_n 2, 0, 0, 0)], 35),
  (35, [(35, .aload_n 0, 0, 0, 0), (36, .iload_n 1, 0, 0, 0), (37, .invokevirtual 119, 15, 1153, 0), (40, .ifCond .eq 9, 0, 0, 0), (43, .iinc 2 1, 0, 0, 0), (46, .goto (-11), 0, 0, 0)], 49),
  (49, [(49, .iload_n 2, 0, 0, 0), (50, .ireturn, 0, 0, 0)], 51)]
def xk15_2 : XB := [(0, [(0, .aload_n 0, 0, 0, 0), (1, .invokevirtual 101, 15, 320, 0), (4, .istore_n 1, 0, 0, 0), (5, .iconst 0, 0, 0, 0), (6, .istore_n 2, 0, 0, 0), (7, .iconst 0, 0, 0, 0), (8, .istore_n 3, 0, 0, 0)], 9),
  (9, [(9, .iload_n 3, 0, 0, 0), (10, .iload_n 1, 0, 0, 0), (11, .if_icmp .ge 28, 0, 0, 0), (14, .iload_n 2, 0, 0, 0), (15, .aload_n 0, 0, 0, 0), (16, .iload_n 3, 0, 0, 0), (17, .invokevirtual 128, 15, 1089, 0), (20, .invokestatic 131, 15, 833, 0), (23, .ifCond .eq 7, 0, 0, 0), (26, .iconst 1, 0, 0, 0), (27, .goto 4, 0, 0, 0)], 30),
  (30, [(30, .iconst 0, 0, 0, 0)], 31),
  (31, [(31, .iadd, 0, 0, 0), (32, .istore_n 2, 0, 0, 0), (33, .iinc 3 1, 0, 0, 0), (36, .goto (-27), 0, 0, 0)], 39),
  (39, [(39, .iload_n 2, 0, 0, 0), (40, .ireturn, 0, 0, 0)], 41)]
def xk15_3 : XB := [(0, [(0, .iload_n 2, 0, 0, 0), (1, .ifCond .ge 5, 0, 0, 0), (4, .iconst 0, 0, 0, 0), (5, .ireturn, 0, 0, 0)], 6),
  (6, [(6, .aload_n 0, 0, 0, 0), (7, .invokevirtual 101, 15, 320, 0), (10, .pop, 0, 0, 0), (11, .iconst 0, 0, 0, 0), (12, .istore_n 3, 0, 0, 0)], 13),
  (13, [(13, .iload_n 3, 0, 0, 0), (14, .aload_n 0, 0, 0, 0), (15, .getfield 58, 15, 16, 0), (18, .if_icmp .ge 21, 0, 0, 0), (21, .aload_n 0, 0, 0, 0), (22, .getfield 48, 15, 122, 0), (25, .iload_n 3, 0, 0, 0), (26, .aload_n 0, 0, 0, 0), (27, .getfield 45, 15, 114, 0), (30, .iload_n 3, 0, 0, 0), (31, .iaload, 0, 0, 0), (32, .iastore, 0, 0, 0), (33, .iinc 3 1, 0, 0, 0), (36, .goto (-23), 0, 0, 0)], 39),
  (39, [(39, .iconst 0, 0, 0, 0), (40, .istore_n 3, 0, 0, 0)], 41),
  (41, [(41, .iload_n 3, 0, 0, 0), (42, .iload_n 2, 0, 0, 0), (43, .if_icmp .gt 19, 0, 0, 0), (46, .aload_n 0, 0, 0, 0), (47, .iload_n 1, 0, 0, 0), (48, .invokevirtual 119, 15, 1153, 0), (51, .ifCond .ne 5, 0, 0, 0), (54, .iconst 0, 0, 0, 0), (55, .ireturn, 0, 0, 0)], 56),
  (56, [(56, .iinc 3 1, 0, 0, 0), (59, .goto (-18), 0, 0, 0)], 62),
  (62, [(62, .iconst 1, 0, 0, 0), (63, .ireturn, 0, 0, 0)], 64)]
def xk15_4 : XB := [(0, [(0, .iconst 0, 0, 0, 0), (1, .istore_n 1, 0, 0, 0)], 2),
  (2, [(2, .iload_n 1, 0, 0, 0), (3, .aload_n 0, 0, 0, 0), (4, .getfield 58, 15, 16, 0), (7, .if_icmp .ge 29, 0, 0, 0), (10, .aload_n 0, 0, 0, 0), (11, .getfield 42, 15, 106, 0), (14, .iload_n 1, 0, 0, 0), (15, .aload_n 0, 0, 0, 0), (16, .getfield 7, 15, 26, 0), (19, .iload_n 1, 0, 0, 0), (20, .baload, 0, 0, 0), (21, .ifCond .eq 7, 0, 0, 0), (24, .iload_n 1, 0, 0, 0), (25, .goto 4, 0, 0, 0)], 28),
  (28, [(28, .iconst (-1), 0, 0, 0)], 29),
  (29, [(29, .iastore, 0, 0, 0), (30, .iinc 1 1, 0, 0, 0), (33, .goto (-31), 0, 0, 0)], 36),
  (36, [(36, .iconst 1, 0, 0, 0), (37, .istore_n 1, 0, 0, 0)], 38),
  (38, [(38, .iload_n 1, 0, 0, 0), (39, .ifCond .eq 114, 0, 0, 0), (42, .iconst 0, 0, 0, 0), (43, .istore_n 1, 0, 0, 0), (44, .iconst 0, 0, 0, 0), (45, .istore_n 2, 0, 0, 0)], 46),
  (46, [(46, .iload_n 2, 0, 0, 0), (47, .aload_n 0, 0, 0, 0), (48, .getfield 58, 15, 16, 0), (51, .if_icmp .ge 99, 0, 0, 0), (54, .iconst 0, 0, 0, 0), (55, .istore_n 3, 0, 0, 0)], 56),
  (56, [(56, .iload_n 3, 0, 0, 0), (57, .iload_n 2, 0, 0, 0), (58, .if_icmp .ge 86, 0, 0, 0), (61, .aload_n 0, 0, 0, 0), (62, .getfield 42, 15, 106, 0), (65, .iload_n 2, 0, 0, 0), (66, .iaload, 0, 0, 0), (67, .aload_n 0, 0, 0, 0), (68, .getfield 42, 15, 106, 0), (71, .iload_n 3, 0, 0, 0), (72, .iaload, 0, 0, 0), (73, .if_icmp .eq 65, 0, 0, 0), (76, .aload_n 0, 0, 0, 0), (77, .iload_n 2, 0, 0, 0), (78, .iload_n 3, 0, 0, 0), (79, .invokevirtual 94, 15, 1666, 0), (82, .ifCond .ne 6, 0, 0, 0), (85, .goto 53, 0, 0, 0)], 88),
  (88, [(88, .aload_n 0, 0, 0, 0), (89, .getfield 42, 15, 106, 0), (92, .iload_n 2, 0, 0, 0), (93, .iaload, 0, 0, 0), (94, .aload_n 0, 0, 0, 0), (95, .getfield 42, 15, 106, 0), (98, .iload_n 3, 0, 0, 0), (99, .iaload, 0, 0, 0), (100, .if_icmp .ge 12, 0, 0, 0), (103, .aload_n 0, 0, 0, 0), (104, .getfield 42, 15, 106, 0), (107, .iload_n 2, 0, 0, 0), (108, .iaload, 0, 0, 0), (109, .goto 9, 0, 0, 0)], 112),
  (112, [(112, .aload_n 0, 0, 0, 0), (113, .getfield 42, 15, 106, 0), (116, .iload_n 3, 0, 0, 0), (117, .iaload, 0, 0, 0)], 118),
  (118, [(118, .istore 4, 0, 0, 0), (120, .aload_n 0, 0, 0, 0), (121, .getfield 42, 15, 106, 0), (124, .iload_n 2, 0, 0, 0), (125, .iload 4, 0, 0, 0), (127, .iastore, 0, 0, 0), (128, .aload_n 0, 0, 0, 0), (129, .getfield 42, 15, 106, 0), (132, .iload_n 3, 0, 0, 0), (133, .iload 4, 0, 0, 0), (135, .iastore, 0, 0, 0), (136, .iconst 1, 0, 0, 0), (137, .istore_n 1, 0, 0, 0)], 138),
  (138, [(138, .iinc 3 1, 0, 0, 0), (141, .goto (-85), 0, 0, 0)], 144),
  (144, [(144, .iinc 2 1, 0, 0, 0), (147, .goto (-101), 0, 0, 0)], 150),
  (150, [(150, .goto (-112), 0, 0, 0)], 153),
  (153, [(153, .return_, 0, 0, 0)], 154)]
def xk15_5 : XB := [(0, [(0, .aload_n 0, 0, 0, 0), (1, .invokevirtual 98, 15, 256, 0), (4, .iconst 0, 0, 0, 0), (5, .istore_n 1, 0, 0, 0), (6, .iconst 0, 0, 0, 0), (7, .istore_n 2, 0, 0, 0)], 8),
  (8, [(8, .iload_n 2, 0, 0, 0), (9, .aload_n 0, 0, 0, 0), (10, .getfield 58, 15, 16, 0), (13, .if_icmp .ge 69, 0, 0, 0), (16, .aload_n 0, 0, 0, 0), (17, .getfield 42, 15, 106, 0), (20, .iload_n 2, 0, 0, 0), (21, .iaload, 0, 0, 0), (22, .iconst (-1), 0, 0, 0), (23, .if_icmp .ne 13, 0, 0, 0), (26, .aload_n 0, 0, 0, 0), (27, .getfield 45, 15, 114, 0), (30, .iload_n 2, 0, 0, 0), (31, .iconst (-1), 0, 0, 0), (32, .iastore, 0, 0, 0), (33, .goto 43, 0, 0, 0)], 36),
  (36, [(36, .aload_n 0, 0, 0, 0), (37, .getfield 42, 15, 106, 0), (40, .iload_n 2, 0, 0, 0), (41, .iaload, 0, 0, 0), (42, .iload_n 2, 0, 0, 0), (43, .if_icmp .ne 16, 0, 0, 0), (46, .aload_n 0, 0, 0, 0), (47, .getfield 45, 15, 114, 0), (50, .iload_n 2, 0, 0, 0), (51, .iload_n 1, 0, 0, 0), (52, .iastore, 0, 0, 0), (53, .iinc 1 1, 0, 0, 0), (56, .goto 20, 0, 0, 0)], 59),
  (59, [(59, .aload_n 0, 0, 0, 0), (60, .getfield 45, 15, 114, 0), (63, .iload_n 2, 0, 0, 0), (64, .aload_n 0, 0, 0, 0), (65, .getfield 45, 15, 114, 0), (68, .aload_n 0, 0, 0, 0), (69, .getfield 42, 15, 106, 0), (72, .iload_n 2, 0, 0, 0), (73, .iaload, 0, 0, 0), (74, .iaload, 0, 0, 0), (75, .iastore, 0, 0, 0)], 76),
  (76, [(76, .iinc 2 1, 0, 0, 0), (79, .goto (-71), 0, 0, 0)], 82),
  (82, [(82, .iload_n 1, 0, 0, 0), (83, .ireturn, 0, 0, 0)], 84)]
def xk15_6 : XB := [(0, [(0, .lload 4, 0, 0, 0), (2, .lload_n 2, 0, 0, 0), (3, .lcmp, 0, 0, 0), (4, .ifCond .le 10, 0, 0, 0), (7, .lload 4, 0, 0, 0), (9, .lload_n 2, 0, 0, 0), (10, .lsub, 0, 0, 0), (11, .goto 18, 0, 0, 0)], 14),
  (14, [(14, .lload_n 0, 0, 0, 0), (15, .lload 6, 0, 0, 0), (17, .lcmp, 0, 0, 0), (18, .ifCond .le 10, 0, 0, 0), (21, .lload_n 0, 0, 0, 0), (22, .lload 6, 0, 0, 0), (24, .lsub, 0, 0, 0), (25, .goto 4, 0, 0, 0)], 28),
  (28, [(28, .lconst 0, 0, 0, 0)], 29),
  (29, [(29, .lreturn, 0, 0, 0)], 30)]
def xk15_7 : XB := [(0, [(0, .aload_n 0, 0, 0, 0), (1, .invokespecial 1, 999, 0, 0), (4, .aload_n 0, 0, 0, 0), (5, .bipush 60, 0, 0, 0), (7, .newarray .boolean, 103, 0, 0), (9, .putfield 7, 15, 26, 0), (12, .aload_n 0, 0, 0, 0), (13, .bipush 60, 0, 0, 0), (15, .newarray .int, 100, 0, 0), (17, .putfield 13, 15, 34, 0), (20, .aload_n 0, 0, 0, 0), (21, .bipush 60, 0, 0, 0), (23, .newarray .int, 100, 0, 0), (25, .putfield 17, 15, 42, 0), (28, .aload_n 0, 0, 0, 0), (29, .bipush 60, 0, 0, 0), (31, .newarray .long, 101, 0, 0), (33, .putfield 20, 15, 50, 0), (36, .aload_n 0, 0, 0, 0), (37, .bipush 60, 0, 0, 0), (39, .newarray .long, 101, 0, 0), (41, .putfield 24, 15, 58, 0), (44, .aload_n 0, 0, 0, 0), (45, .bipush 60, 0, 0, 0), (47, .newarray .long, 101, 0, 0), (49, .putfield 27, 15, 66, 0), (52, .aload_n 0, 0, 0, 0), (53, .bipush 60, 0, 0, 0), (55, .newarray .long, 101, 0, 0), (57, .putfield 30, 15, 74, 0), (60, .aload_n 0, 0, 0, 0), (61, .bipush 60, 0, 0, 0), (63, .newarray .long, 101, 0, 0), (65, .putfield 33, 15, 82, 0), (68, .aload_n 0, 0, 0, 0), (69, .bipush 60, 0, 0, 0), (71, .newarray .int, 100, 0, 0), (73, .putfield 36, 15, 90, 0), (76, .aload_n 0, 0, 0, 0), (77, .bipush 40, 0, 0, 0), (79, .newarray .int, 100, 0, 0), (81, .putfield 39, 15, 98, 0), (84, .aload_n 0, 0, 0, 0), (85, .bipush 60, 0, 0, 0), (87, .newarray .int, 100, 0, 0), (89, .putfield 42, 15, 106, 0), (92, .aload_n 0, 0, 0, 0), (93, .bipush 60, 0, 0, 0), (95, .newarray .int, 100, 0, 0), (97, .putfield 45, 15, 114, 0), (100, .aload_n 0, 0, 0, 0), (101, .bipush 60, 0, 0, 0), (103, .newarray .int, 100, 0, 0), (105, .putfield 48, 15, 122, 0), (108, .aload_n 0, 0, 0, 0), (109, .iload_n 1, 0, 0, 0), (110, .iconst 1, 0, 0, 0), (111, .if_icmp .ge 7, 0, 0, 0), (114, .iconst 1, 0, 0, 0), (115, .goto 15, 0, 0, 0)], 118),
  (118, [(118, .iload_n 1, 0, 0, 0), (119, .bipush 8, 0, 0, 0), (121, .if_icmp .le 8, 0, 0, 0), (124, .bipush 8, 0, 0, 0), (126, .goto 4, 0, 0, 0)], 129),
  (129, [(129, .iload_n 1, 0, 0, 0)], 130),
  (130, [(130, .putfield 51, 15, 8, 0), (133, .iconst 0, 0, 0, 0), (134, .istore_n 2, 0, 0, 0)], 135),
  (135, [(135, .iload_n 2, 0, 0, 0), (136, .bipush 40, 0, 0, 0), (138, .if_icmp .ge 16, 0, 0, 0), (141, .aload_n 0, 0, 0, 0), (142, .getfield 39, 15, 98, 0), (145, .iload_n 2, 0, 0, 0), (146, .iconst (-1), 0, 0, 0), (147, .iastore, 0, 0, 0), (148, .iinc 2 1, 0, 0, 0), (151, .goto (-16), 0, 0, 0)], 154),
  (154, [(154, .return_, 0, 0, 0)], 155)]
def xk15_8 : XB := [(0, [(0, .iload_n 1, 0, 0, 0), (1, .ifCond .lt 15, 0, 0, 0), (4, .iload_n 1, 0, 0, 0), (5, .aload_n 0, 0, 0, 0), (6, .getfield 51, 15, 8, 0), (9, .if_icmp .ge 7, 0, 0, 0), (12, .iconst 1, 0, 0, 0), (13, .goto 4, 0, 0, 0)], 16),
  (16, [(16, .iconst 0, 0, 0, 0)], 17),
  (17, [(17, .ireturn, 0, 0, 0)], 18)]
def xk15_9 : XB := [(0, [(0, .iload_n 0, 0, 0, 0), (1, .ifCond .lt 13, 0, 0, 0), (4, .iload_n 0, 0, 0, 0), (5, .bipush 20, 0, 0, 0), (7, .if_icmp .ge 7, 0, 0, 0), (10, .iconst 1, 0, 0, 0), (11, .goto 4, 0, 0, 0)], 14),
  (14, [(14, .iconst 0, 0, 0, 0)], 15),
  (15, [(15, .ireturn, 0, 0, 0)], 16)]
def xk15_10 : XB := [(0, [(0, .iload_n 1, 0, 0, 0), (1, .ifCond .lt 15, 0, 0, 0), (4, .iload_n 1, 0, 0, 0), (5, .aload_n 0, 0, 0, 0), (6, .getfield 58, 15, 16, 0), (9, .if_icmp .ge 7, 0, 0, 0), (12, .iconst 1, 0, 0, 0), (13, .goto 4, 0, 0, 0)], 16),
  (16, [(16, .iconst 0, 0, 0, 0)], 17),
  (17, [(17, .ireturn, 0, 0, 0)], 18)]
def xk15_11 : XB := [(0, [(0, .iload_n 0, 0, 0, 0), (1, .ifCond .lt 13, 0, 0, 0), (4, .iload_n 0, 0, 0, 0), (5, .bipush 40, 0, 0, 0), (7, .if_icmp .ge 7, 0, 0, 0), (10, .iconst 1, 0, 0, 0), (11, .goto 4, 0, 0, 0)], 14),
  (14, [(14, .iconst 0, 0, 0, 0)], 15),
  (15, [(15, .ireturn, 0, 0, 0)], 16)]
def xk15_12 : XB := [(0, [(0, .lload_n 0, 0, 0, 0), (1, .ldc2_w 61, 0, 0, -100000), (4, .lcmp, 0, 0, 0), (5, .ifCond .lt 31, 0, 0, 0), (8, .lload_n 0, 0, 0, 0), (9, .ldc2_w 63, 0, 0, 100000), (12, .lcmp, 0, 0, 0), (13, .ifCond .gt 23, 0, 0, 0), (16, .lload_n 2, 0, 0, 0), (17, .ldc2_w 61, 0, 0, -100000), (20, .lcmp, 0, 0, 0), (21, .ifCond .lt 15, 0, 0, 0), (24, .lload_n 2, 0, 0, 0), (25, .ldc2_w 63, 0, 0, 100000), (28, .lcmp, 0, 0, 0), (29, .ifCond .gt 7, 0, 0, 0), (32, .iconst 1, 0, 0, 0), (33, .goto 4, 0, 0, 0)], 36),
  (36, [(36, .iconst 0, 0, 0, 0)], 37),
  (37, [(37, .ireturn, 0, 0, 0)], 38)]
def xk15_13 : XB := [(0, [(0, .iload_n 0, 0, 0, 0), (1, .iload_n 0, 0, 0, 0), (2, .iconst 1, 0, 0, 0), (3, .isub, 0, 0, 0), (4, .iand, 0, 0, 0), (5, .ifCond .eq 7, 0, 0, 0), (8, .iconst 1, 0, 0, 0), (9, .goto 4, 0, 0, 0)], 12),
  (12, [(12, .iconst 0, 0, 0, 0)], 13),
  (13, [(13, .ireturn, 0, 0, 0)], 14)]
def xk15_14 : XB := [(0, [(0, .lload_n 0, 0, 0, 0), (1, .lconst 1, 0, 0, 0), (2, .lcmp, 0, 0, 0), (3, .ifCond .lt 15, 0, 0, 0), (6, .lload_n 0, 0, 0, 0), (7, .ldc2_w 63, 0, 0, 100000), (10, .lcmp, 0, 0, 0), (11, .ifCond .gt 7, 0, 0, 0), (14, .iconst 1, 0, 0, 0), (15, .goto 4, 0, 0, 0)], 18),
  (18, [(18, .iconst 0, 0, 0, 0)], 19),
  (19, [(19, .ireturn, 0, 0, 0)], 20)]
def xk15_15 : XB := [(0, [(0, .aload_n 0, 0, 0, 0), (1, .iload_n 1, 0, 0, 0), (2, .invokestatic 84, 15, 577, 0), (5, .ifCond .eq 16, 0, 0, 0), (8, .iload_n 3, 0, 0, 0), (9, .ifCond .eq 8, 0, 0, 0), (12, .iload_n 3, 0, 0, 0), (13, .iconst 1, 0, 0, 0), (14, .if_icmp .ne 7, 0, 0, 0)], 17),
  (17, [(17, .iconst 0, 0, 0, 0), (18, .goto 4, 0, 0, 0)], 21),
  (21, [(21, .iconst 1, 0, 0, 0)], 22),
  (22, [(22, .putfield 55, 15, 0, 0), (25, .aload_n 0, 0, 0, 0), (26, .getfield 55, 15, 0, 0), (29, .ifCond .eq 5, 0, 0, 0), (32, .iconst 0, 0, 0, 0), (33, .ireturn, 0, 0, 0)], 34),
  (34, [(34, .aload_n 0, 0, 0, 0), (35, .iload_n 1, 0, 0, 0), (36, .iload_n 2, 0, 0, 0), (37, .invokevirtual 125, 15, 194, 0), (40, .ifCond .ne 5, 0, 0, 0), (43, .iconst (-1), 0, 0, 0), (44, .ireturn, 0, 0, 0)], 45),
  (45, [(45, .iload_n 3, 0, 0, 0), (46, .ifCond .ne 10, 0, 0, 0), (49, .aload_n 0, 0, 0, 0), (50, .getfield 113, 15, 136, 0), (53, .goto 7, 0, 0, 0)], 56),
  (56, [(56, .aload_n 0, 0, 0, 0), (57, .getfield 116, 15, 144, 0)], 60),
  (60, [(60, .ireturn, 0, 0, 0)], 61)]
def xk15_16 : XB := [(0, [(0, .aload_n 0, 0, 0, 0), (1, .aload_n 0, 0, 0, 0), (2, .iload_n 1, 0, 0, 0), (3, .invokevirtual 87, 15, 641, 0), (6, .ifCond .eq 7, 0, 0, 0), (9, .iconst 0, 0, 0, 0), (10, .goto 4, 0, 0, 0)], 13),
  (13, [(13, .iconst 1, 0, 0, 0)], 14),
  (14, [(14, .putfield 55, 15, 0, 0), (17, .aload_n 0, 0, 0, 0), (18, .getfield 55, 15, 0, 0), (21, .ifCond .eq 5, 0, 0, 0), (24, .iconst 0, 0, 0, 0), (25, .ireturn, 0, 0, 0)], 26),
  (26, [(26, .aload_n 0, 0, 0, 0), (27, .invokevirtual 101, 15, 320, 0), (30, .pop, 0, 0, 0), (31, .aload_n 0, 0, 0, 0), (32, .getfield 45, 15, 114, 0), (35, .iload_n 1, 0, 0, 0), (36, .iaload, 0, 0, 0), (37, .ireturn, 0, 0, 0)], 38)]
def xk15_17 : XB := [(0, [(0, .iconst 0, 0, 0, 0), (1, .istore_n 2, 0, 0, 0), (2, .iconst 0, 0, 0, 0), (3, .istore_n 3, 0, 0, 0)], 4),
  (4, [(4, .iload_n 3, 0, 0, 0), (5, .aload_n 0, 0, 0, 0), (6, .getfield 58, 15, 16, 0), (9, .if_icmp .ge 47, 0, 0, 0), (12, .aload_n 0, 0, 0, 0), (13, .getfield 45, 15, 114, 0), (16, .iload_n 3, 0, 0, 0), (17, .iaload, 0, 0, 0), (18, .iload_n 1, 0, 0, 0), (19, .if_icmp .ne 31, 0, 0, 0), (22, .aload_n 0, 0, 0, 0), (23, .getfield 7, 15, 26, 0), (26, .iload_n 3, 0, 0, 0), (27, .baload, 0, 0, 0), (28, .ifCond .eq 22, 0, 0, 0), (31, .aload_n 0, 0, 0, 0), (32, .iload_n 3, 0, 0, 0), (33, .invokevirtual 105, 15, 1345, 0), (36, .iconst (-1), 0, 0, 0), (37, .if_icmp .eq 13, 0, 0, 0), (40, .iload_n 2, 0, 0, 0), (41, .iconst 1, 0, 0, 0), (42, .aload_n 0, 0, 0, 0), (43, .iload_n 3, 0, 0, 0), (44, .invokevirtual 105, 15, 1345, 0), (47, .ishl, 0, 0, 0), (48, .ior, 0, 0, 0), (49, .istore_n 2, 0, 0, 0)], 50),
  (50, [(50, .iinc 3 1, 0, 0, 0), (53, .goto (-49), 0, 0, 0)], 56),
  (56, [(56, .iload_n 2, 0, 0, 0), (57, .ireturn, 0, 0, 0)], 58)]
def xk15_18 : XB := [(0, [(0, .iconst 0, 0, 0, 0), (1, .istore_n 2, 0, 0, 0), (2, .iconst 0, 0, 0, 0), (3, .istore_n 3, 0, 0, 0)], 4),
  (4, [(4, .iload_n 3, 0, 0, 0), (5, .aload_n 0, 0, 0, 0), (6, .getfield 58, 15, 16, 0), (9, .if_icmp .ge 207, 0, 0, 0), (12, .iconst 0, 0, 0, 0), (13, .istore 4, 0, 0, 0)], 15),
  (15, [(15, .iload 4, 0, 0, 0), (17, .iload_n 3, 0, 0, 0), (18, .if_icmp .ge 192, 0, 0, 0), (21, .aload_n 0, 0, 0, 0), (22, .iload 4, 0, 0, 0), (24, .invokevirtual 105, 15, 1345, 0), (27, .iload_n 1, 0, 0, 0), (28, .if_icmp .ne 176, 0, 0, 0), (31, .aload_n 0, 0, 0, 0), (32, .iload_n 3, 0, 0, 0), (33, .invokevirtual 105, 15, 1345, 0), (36, .iload_n 1, 0, 0, 0), (37, .if_icmp .ne 167, 0, 0, 0), (40, .aload_n 0, 0, 0, 0), (41, .getfield 48, 15, 122, 0), (44, .iload 4, 0, 0, 0), (46, .iaload, 0, 0, 0), (47, .aload_n 0, 0, 0, 0), (48, .getfield 48, 15, 122, 0), (51, .iload_n 3, 0, 0, 0), (52, .iaload, 0, 0, 0), (53, .if_icmp .ne 6, 0, 0, 0), (56, .goto 148, 0, 0, 0)], 59),
  (59, [(59, .aload_n 0, 0, 0, 0), (60, .getfield 20, 15, 50, 0), (63, .iload 4, 0, 0, 0), (65, .laload, 0, 0, 0), (66, .aload_n 0, 0, 0, 0), (67, .getfield 20, 15, 50, 0), (70, .iload_n 3, 0, 0, 0), (71, .laload, 0, 0, 0), (72, .lsub, 0, 0, 0), (73, .aload_n 0, 0, 0, 0), (74, .getfield 20, 15, 50, 0), (77, .iload 4, 0, 0, 0), (79, .laload, 0, 0, 0), (80, .aload_n 0, 0, 0, 0), (81, .getfield 20, 15, 50, 0), (84, .iload_n 3, 0, 0, 0), (85, .laload, 0, 0, 0), (86, .lsub, 0, 0, 0), (87, .lmul, 0, 0, 0), (88, .aload_n 0, 0, 0, 0), (89, .getfield 24, 15, 58, 0), (92, .iload 4, 0, 0, 0), (94, .laload, 0, 0, 0), (95, .aload_n 0, 0, 0, 0), (96, .getfield 24, 15, 58, 0), (99, .iload_n 3, 0, 0, 0), (100, .laload, 0, 0, 0), (101, .lsub, 0, 0, 0), (102, .aload_n 0, 0, 0, 0), (103, .getfield 24, 15, 58, 0), (106, .iload 4, 0, 0, 0), (108, .laload, 0, 0, 0), (109, .aload_n 0, 0, 0, 0), (110, .getfield 24, 15, 58, 0), (113, .iload_n 3, 0, 0, 0), (114, .laload, 0, 0, 0), (115, .lsub, 0, 0, 0), (116, .lmul, 0, 0, 0), (117, .ladd, 0, 0, 0), (118, .lstore 5, 0, 0, 0), (120, .iload_n 2, 0, 0, 0), (121, .ifCond .eq 49, 0, 0, 0), (124, .lload 5, 0, 0, 0), (126, .aload_n 0, 0, 0, 0), (127, .getfield 109, 15, 129, 0), (130, .lcmp, 0, 0, 0), (131, .ifCond .lt 39, 0, 0, 0), (134, .lload 5, 0, 0, 0), (136, .aload_n 0, 0, 0, 0), (137, .getfield 109, 15, 129, 0), (140, .lcmp, 0, 0, 0), (141, .ifCond .ne 33, 0, 0, 0), (144, .iload 4, 0, 0, 0), (146, .aload_n 0, 0, 0, 0), (147, .getfield 113, 15, 136, 0), (150, .if_icmp .lt 20, 0, 0, 0), (153, .iload 4, 0, 0, 0), (155, .aload_n 0, 0, 0, 0), (156, .getfield 113, 15, 136, 0), (159, .if_icmp .ne 15, 0, 0, 0), (162, .iload_n 3, 0, 0, 0), (163, .aload_n 0, 0, 0, 0), (164, .getfield 116, 15, 144, 0), (167, .if_icmp .ge 7, 0, 0, 0)], 170),
  (170, [(170, .iconst 1, 0, 0, 0), (171, .goto 4, 0, 0, 0)], 174),
  (174, [(174, .iconst 0, 0, 0, 0)], 175),
  (175, [(175, .istore 7, 0, 0, 0), (177, .iload 7, 0, 0, 0), (179, .ifCond .ne 6, 0, 0, 0), (182, .goto 22, 0, 0, 0)], 185),
  (185, [(185, .iconst 1, 0, 0, 0), (186, .istore_n 2, 0, 0, 0), (187, .aload_n 0, 0, 0, 0), (188, .lload 5, 0, 0, 0), (190, .putfield 109, 15, 129, 0), (193, .aload_n 0, 0, 0, 0), (194, .iload 4, 0, 0, 0), (196, .putfield 113, 15, 136, 0), (199, .aload_n 0, 0, 0, 0), (200, .iload_n 3, 0, 0, 0), (201, .putfield 116, 15, 144, 0)], 204),
  (204, [(204, .iinc 4 1, 0, 0, 0), (207, .goto (-192), 0, 0, 0)], 210),
  (210, [(210, .iinc 3 1, 0, 0, 0), (213, .goto (-209), 0, 0, 0)], 216),
  (216, [(216, .iload_n 2, 0, 0, 0), (217, .ifCond .ne 5, 0, 0, 0), (220, .iconst 0, 0, 0, 0), (221, .ireturn, 0, 0, 0)], 222),
  (222, [(222, .aload_n 0, 0, 0, 0), (223, .getfield 48, 15, 122, 0), (226, .aload_n 0, 0, 0, 0), (227, .getfield 113, 15, 136, 0), (230, .iaload, 0, 0, 0), (231, .istore_n 3, 0, 0, 0), (232, .aload_n 0, 0, 0, 0), (233, .getfield 48, 15, 122, 0), (236, .aload_n 0, 0, 0, 0), (237, .getfield 116, 15, 144, 0), (240, .iaload, 0, 0, 0), (241, .istore 4, 0, 0, 0), (243, .iconst 0, 0, 0, 0), (244, .istore 5, 0, 0, 0)], 246),
  (246, [(246, .iload 5, 0, 0, 0), (248, .aload_n 0, 0, 0, 0), (249, .getfield 58, 15, 16, 0), (252, .if_icmp .ge 39, 0, 0, 0), (255, .aload_n 0, 0, 0, 0), (256, .getfield 48, 15, 122, 0), (259, .iload 5, 0, 0, 0), (261, .aload_n 0, 0, 0, 0), (262, .getfield 48, 15, 122, 0), (265, .iload 5, 0, 0, 0), (267, .iaload, 0, 0, 0), (268, .iload 4, 0, 0, 0), (270, .if_icmp .ne 7, 0, 0, 0), (273, .iload_n 3, 0, 0, 0), (274, .goto 10, 0, 0, 0)], 277),
  (277, [(277, .aload_n 0, 0, 0, 0), (278, .getfield 48, 15, 122, 0), (281, .iload 5, 0, 0, 0), (283, .iaload, 0, 0, 0)], 284),
  (284, [(284, .iastore, 0, 0, 0), (285, .iinc 5 1, 0, 0, 0), (288, .goto (-42), 0, 0, 0)], 291),
  (291, [(291, .iconst 1, 0, 0, 0), (292, .ireturn, 0, 0, 0)], 293)]
def xk15_19 : XB := [(0, [(0, .aload_n 0, 0, 0, 0), (1, .iload_n 1, 0, 0, 0), (2, .invokestatic 84, 15, 577, 0), (5, .ifCond .eq 7, 0, 0, 0), (8, .iconst 0, 0, 0, 0), (9, .goto 4, 0, 0, 0)], 12),
  (12, [(12, .iconst 1, 0, 0, 0)], 13),
  (13, [(13, .putfield 55, 15, 0, 0), (16, .aload_n 0, 0, 0, 0), (17, .getfield 55, 15, 0, 0), (20, .ifCond .ne 11, 0, 0, 0), (23, .aload_n 0, 0, 0, 0), (24, .iload_n 1, 0, 0, 0), (25, .invokevirtual 122, 15, 65, 0), (28, .goto 4, 0, 0, 0)], 31),
  (31, [(31, .iconst 0, 0, 0, 0)], 32),
  (32, [(32, .ireturn, 0, 0, 0)], 33)]
def xk15_20 : XB := [(0, [(0, .aload_n 0, 0, 0, 0), (1, .iload_n 1, 0, 0, 0), (2, .invokestatic 81, 15, 705, 0), (5, .ifCond .eq 11, 0, 0, 0), (8, .aload_n 0, 0, 0, 0), (9, .iload_n 2, 0, 0, 0), (10, .invokevirtual 73, 15, 513, 0), (13, .ifCond .ne 7, 0, 0, 0)], 16),
  (16, [(16, .iconst 1, 0, 0, 0), (17, .goto 25, 0, 0, 0)], 20),
  (20, [(20, .lload_n 3, 0, 0, 0), (21, .lload 5, 0, 0, 0), (23, .invokestatic 65, 15, 770, 0), (26, .ifCond .eq 15, 0, 0, 0), (29, .lload 7, 0, 0, 0), (31, .invokestatic 69, 15, 897, 0), (34, .ifCond .eq 7, 0, 0, 0), (37, .iconst 0, 0, 0, 0), (38, .goto 4, 0, 0, 0)], 41),
  (41, [(41, .iconst 2, 0, 0, 0)], 42),
  (42, [(42, .putfield 55, 15, 0, 0), (45, .aload_n 0, 0, 0, 0), (46, .getfield 55, 15, 0, 0), (49, .ifCond .ne 20, 0, 0, 0), (52, .aload_n 0, 0, 0, 0), (53, .iload_n 2, 0, 0, 0), (54, .iload_n 2, 0, 0, 0), (55, .lload_n 3, 0, 0, 0), (56, .lload 5, 0, 0, 0), (58, .lconst 0, 0, 0, 0), (59, .lconst 0, 0, 0, 0), (60, .lload 7, 0, 0, 0), (62, .iload_n 1, 0, 0, 0), (63, .invokevirtual 77, 15, 8, 0), (66, .goto 4, 0, 0, 0)], 69),
  (69, [(69, .iconst 0, 0, 0, 0)], 70),
  (70, [(70, .ireturn, 0, 0, 0)], 71)]
def xk15_21 : XB := [(0, [(0, .aload_n 0, 0, 0, 0), (1, .getfield 36, 15, 90, 0), (4, .iload_n 1, 0, 0, 0), (5, .iaload, 0, 0, 0), (6, .iconst (-1), 0, 0, 0), (7, .if_icmp .eq 12, 0, 0, 0), (10, .aload_n 0, 0, 0, 0), (11, .getfield 7, 15, 26, 0), (14, .iload_n 1, 0, 0, 0), (15, .baload, 0, 0, 0), (16, .ifCond .ne 7, 0, 0, 0)], 19),
  (19, [(19, .iconst (-1), 0, 0, 0), (20, .goto 14, 0, 0, 0)], 23),
  (23, [(23, .aload_n 0, 0, 0, 0), (24, .getfield 39, 15, 98, 0), (27, .aload_n 0, 0, 0, 0), (28, .getfield 36, 15, 90, 0), (31, .iload_n 1, 0, 0, 0), (32, .iaload, 0, 0, 0), (33, .iaload, 0, 0, 0)], 34),
  (34, [(34, .ireturn, 0, 0, 0)], 35)]
def xk15_22 : XB := [(0, [(0, .aload_n 0, 0, 0, 0), (1, .iload_n 1, 0, 0, 0), (2, .invokestatic 81, 15, 705, 0), (5, .ifCond .ne 7, 0, 0, 0), (8, .iconst 1, 0, 0, 0), (9, .goto 20, 0, 0, 0)], 12),
  (12, [(12, .iload_n 2, 0, 0, 0), (13, .iconst (-1), 0, 0, 0), (14, .if_icmp .eq 10, 0, 0, 0), (17, .iload_n 2, 0, 0, 0), (18, .invokestatic 84, 15, 577, 0), (21, .ifCond .eq 7, 0, 0, 0)], 24),
  (24, [(24, .iconst 0, 0, 0, 0), (25, .goto 4, 0, 0, 0)], 28),
  (28, [(28, .iconst 2, 0, 0, 0)], 29),
  (29, [(29, .putfield 55, 15, 0, 0), (32, .aload_n 0, 0, 0, 0), (33, .getfield 55, 15, 0, 0), (36, .ifCond .ne 13, 0, 0, 0), (39, .aload_n 0, 0, 0, 0), (40, .getfield 39, 15, 98, 0), (43, .iload_n 1, 0, 0, 0), (44, .iaload, 0, 0, 0), (45, .iload_n 2, 0, 0, 0), (46, .if_icmp .ne 5, 0, 0, 0)], 49),
  (49, [(49, .iconst 0, 0, 0, 0), (50, .ireturn, 0, 0, 0)], 51),
  (51, [(51, .aload_n 0, 0, 0, 0), (52, .getfield 39, 15, 98, 0), (55, .iload_n 1, 0, 0, 0), (56, .iload_n 2, 0, 0, 0), (57, .iastore, 0, 0, 0), (58, .iconst 1, 0, 0, 0), (59, .ireturn, 0, 0, 0)], 60)]
def xk15_23 : XB := [(0, [(0, .lload_n 2, 0, 0, 0), (1, .lload 4, 0, 0, 0), (3, .invokestatic 65, 15, 770, 0), (6, .ifCond .eq 23, 0, 0, 0), (9, .lload 6, 0, 0, 0), (11, .invokestatic 69, 15, 897, 0), (14, .ifCond .eq 15, 0, 0, 0), (17, .lload 8, 0, 0, 0), (19, .invokestatic 69, 15, 897, 0), (22, .ifCond .eq 7, 0, 0, 0), (25, .iconst 1, 0, 0, 0), (26, .goto 4, 0, 0, 0)], 29),
  (29, [(29, .iconst 0, 0, 0, 0)], 30),
  (30, [(30, .istore 10, 0, 0, 0), (32, .aload_n 0, 0, 0, 0), (33, .aload_n 0, 0, 0, 0), (34, .iload_n 1, 0, 0, 0), (35, .invokevirtual 73, 15, 513, 0), (38, .ifCond .ne 7, 0, 0, 0), (41, .iconst 1, 0, 0, 0), (42, .goto 13, 0, 0, 0)], 45),
  (45, [(45, .iload 10, 0, 0, 0), (47, .ifCond .eq 7, 0, 0, 0), (50, .iconst 0, 0, 0, 0), (51, .goto 4, 0, 0, 0)], 54),
  (54, [(54, .iconst 2, 0, 0, 0)], 55),
  (55, [(55, .putfield 55, 15, 0, 0), (58, .aload_n 0, 0, 0, 0), (59, .getfield 55, 15, 0, 0), (62, .ifCond .ne 21, 0, 0, 0), (65, .aload_n 0, 0, 0, 0), (66, .iload_n 1, 0, 0, 0), (67, .iload_n 1, 0, 0, 0), (68, .lload_n 2, 0, 0, 0), (69, .lload 4, 0, 0, 0), (71, .lload 6, 0, 0, 0), (73, .lload 8, 0, 0, 0), (75, .lconst 0, 0, 0, 0), (76, .iconst (-1), 0, 0, 0), (77, .invokevirtual 77, 15, 8, 0), (80, .goto 4, 0, 0, 0)], 83),
  (83, [(83, .iconst 0, 0, 0, 0)], 84),
  (84, [(84, .ireturn, 0, 0, 0)], 85)]
def xk15_24 : XB := [(0, [(0, .aload_n 0, 0, 0, 0), (1, .iconst 0, 0, 0, 0), (2, .putfield 55, 15, 0, 0), (5, .aload_n 0, 0, 0, 0), (6, .invokevirtual 134, 15, 128, 0), (9, .ireturn, 0, 0, 0)], 10)]
def xk15_25 : XB := [(0, [(0, .aload_n 0, 0, 0, 0), (1, .getfield 55, 15, 0, 0), (4, .ireturn, 0, 0, 0)], 5)]
def xk15_26 : XB := [(0, [(0, .aload_n 0, 0, 0, 0), (1, .getfield 7, 15, 26, 0), (4, .iload_n 1, 0, 0, 0), (5, .baload, 0, 0, 0), (6, .ifCond .eq 42, 0, 0, 0), (9, .aload_n 0, 0, 0, 0), (10, .getfield 7, 15, 26, 0), (13, .iload_n 2, 0, 0, 0), (14, .baload, 0, 0, 0), (15, .ifCond .eq 33, 0, 0, 0), (18, .aload_n 0, 0, 0, 0), (19, .getfield 13, 15, 34, 0), (22, .iload_n 1, 0, 0, 0), (23, .iaload, 0, 0, 0), (24, .aload_n 0, 0, 0, 0), (25, .getfield 17, 15, 42, 0), (28, .iload_n 2, 0, 0, 0), (29, .iaload, 0, 0, 0), (30, .if_icmp .gt 18, 0, 0, 0), (33, .aload_n 0, 0, 0, 0), (34, .getfield 13, 15, 34, 0), (37, .iload_n 2, 0, 0, 0), (38, .iaload, 0, 0, 0), (39, .aload_n 0, 0, 0, 0), (40, .getfield 17, 15, 42, 0), (43, .iload_n 1, 0, 0, 0), (44, .iaload, 0, 0, 0), (45, .if_icmp .le 5, 0, 0, 0)], 48),
  (48, [(48, .iconst 0, 0, 0, 0), (49, .ireturn, 0, 0, 0)], 50),
  (50, [(50, .aload_n 0, 0, 0, 0), (51, .getfield 20, 15, 50, 0), (54, .iload_n 1, 0, 0, 0), (55, .laload, 0, 0, 0), (56, .aload_n 0, 0, 0, 0), (57, .getfield 20, 15, 50, 0), (60, .iload_n 1, 0, 0, 0), (61, .laload, 0, 0, 0), (62, .aload_n 0, 0, 0, 0), (63, .getfield 27, 15, 66, 0), (66, .iload_n 1, 0, 0, 0), (67, .laload, 0, 0, 0), (68, .ladd, 0, 0, 0), (69, .aload_n 0, 0, 0, 0), (70, .getfield 20, 15, 50, 0), (73, .iload_n 2, 0, 0, 0), (74, .laload, 0, 0, 0), (75, .aload_n 0, 0, 0, 0), (76, .getfield 20, 15, 50, 0), (79, .iload_n 2, 0, 0, 0), (80, .laload, 0, 0, 0), (81, .aload_n 0, 0, 0, 0), (82, .getfield 27, 15, 66, 0), (85, .iload_n 2, 0, 0, 0), (86, .laload, 0, 0, 0), (87, .ladd, 0, 0, 0), (88, .invokestatic 90, 15, 388, 0), (91, .lstore_n 3, 0, 0, 0), (92, .aload_n 0, 0, 0, 0), (93, .getfield 24, 15, 58, 0), (96, .iload_n 1, 0, 0, 0), (97, .laload, 0, 0, 0), (98, .aload_n 0, 0, 0, 0), (99, .getfield 24, 15, 58, 0), (102, .iload_n 1, 0, 0, 0), (103, .laload, 0, 0, 0), (104, .aload_n 0, 0, 0, 0), (105, .getfield 30, 15, 74, 0), (108, .iload_n 1, 0, 0, 0), (109, .laload, 0, 0, 0), (110, .ladd, 0, 0, 0), (111, .aload_n 0, 0, 0, 0), (112, .getfield 24, 15, 58, 0), (115, .iload_n 2, 0, 0, 0), (116, .laload, 0, 0, 0), (117, .aload_n 0, 0, 0, 0), (118, .getfield 24, 15, 58, 0), (121, .iload_n 2, 0, 0, 0), (122, .laload, 0, 0, 0), (123, .aload_n 0, 0, 0, 0), (124, .getfield 30, 15, 74, 0), (127, .iload_n 2, 0, 0, 0), (128, .laload, 0, 0, 0), (129, .ladd, 0, 0, 0), (130, .invokestatic 90, 15, 388, 0), (133, .lstore 5, 0, 0, 0), (135, .aload_n 0, 0, 0, 0), (136, .getfield 33, 15, 82, 0), (139, .iload_n 1, 0, 0, 0), (140, .laload, 0, 0, 0), (141, .aload_n 0, 0, 0, 0), (142, .getfield 33, 15, 82, 0), (145, .iload_n 2, 0, 0, 0), (146, .laload, 0, 0, 0), (147, .ladd, 0, 0, 0), (148, .lstore 7, 0, 0, 0), (150, .lload_n 3, 0, 0, 0), (151, .lload_n 3, 0, 0, 0), (152, .lmul, 0, 0, 0), (153, .lload 5, 0, 0, 0), (155, .lload 5, 0, 0, 0), (157, .lmul, 0, 0, 0), (158, .ladd, 0, 0, 0), (159, .lload 7, 0, 0, 0), (161, .lload 7, 0, 0, 0), (163, .lmul, 0, 0, 0), (164, .lcmp, 0, 0, 0), (165, .ifCond .gt 7, 0, 0, 0), (168, .iconst 1, 0, 0, 0), (169, .goto 4, 0, 0, 0)], 172),
  (172, [(172, .iconst 0, 0, 0, 0)], 173),
  (173, [(173, .ireturn, 0, 0, 0)], 174)]
def xk15_27 : XB := [(0, [(0, .iload_n 1, 0, 0, 0), (1, .iload_n 2, 0, 0, 0), (2, .if_icmp .gt 24, 0, 0, 0), (5, .lload_n 3, 0, 0, 0), (6, .lload 5, 0, 0, 0), (8, .invokestatic 65, 15, 770, 0), (11, .ifCond .eq 15, 0, 0, 0), (14, .lload 7, 0, 0, 0), (16, .invokestatic 69, 15, 897, 0), (19, .ifCond .eq 7, 0, 0, 0), (22, .iconst 1, 0, 0, 0), (23, .goto 4, 0, 0, 0)], 26),
  (26, [(26, .iconst 0, 0, 0, 0)], 27),
  (27, [(27, .istore 9, 0, 0, 0), (29, .aload_n 0, 0, 0, 0), (30, .aload_n 0, 0, 0, 0), (31, .iload_n 1, 0, 0, 0), (32, .invokevirtual 73, 15, 513, 0), (35, .ifCond .eq 11, 0, 0, 0), (38, .aload_n 0, 0, 0, 0), (39, .iload_n 2, 0, 0, 0), (40, .invokevirtual 73, 15, 513, 0), (43, .ifCond .ne 7, 0, 0, 0)], 46),
  (46, [(46, .iconst 1, 0, 0, 0), (47, .goto 13, 0, 0, 0)], 50),
  (50, [(50, .iload 9, 0, 0, 0), (52, .ifCond .eq 7, 0, 0, 0), (55, .iconst 0, 0, 0, 0), (56, .goto 4, 0, 0, 0)], 59),
  (59, [(59, .iconst 2, 0, 0, 0)], 60),
  (60, [(60, .putfield 55, 15, 0, 0), (63, .aload_n 0, 0, 0, 0), (64, .getfield 55, 15, 0, 0), (67, .ifCond .ne 20, 0, 0, 0), (70, .aload_n 0, 0, 0, 0), (71, .iload_n 1, 0, 0, 0), (72, .iload_n 2, 0, 0, 0), (73, .lload_n 3, 0, 0, 0), (74, .lload 5, 0, 0, 0), (76, .lconst 0, 0, 0, 0), (77, .lconst 0, 0, 0, 0), (78, .lload 7, 0, 0, 0), (80, .iconst (-1), 0, 0, 0), (81, .invokevirtual 77, 15, 8, 0), (84, .goto 4, 0, 0, 0)], 87),
  (87, [(87, .iconst 0, 0, 0, 0)], 88),
  (88, [(88, .ireturn, 0, 0, 0)], 89)]
def xk15 : List XB := [xk15_0, xk15_1, xk15_2, xk15_3, xk15_4, xk15_5, xk15_6, xk15_7, xk15_8, xk15_9, xk15_10, xk15_11, xk15_12, xk15_13, xk15_14, xk15_15, xk15_16, xk15_17, xk15_18, xk15_19, xk15_20, xk15_21, xk15_22, xk15_23, xk15_24, xk15_25, xk15_26, xk15_27]
theorem xr15_0 : xRowOk (15, xmn 15 0, prog_18_method_9_code, 14, (some .int), xk15_0) = true := xRowD_ok (by decide +kernel)
theorem xr15_1 : xRowOk (15, xmn 15 1, prog_18_method_27_code, 3, (some .int), xk15_1) = true := xRowD_ok (by decide +kernel)
theorem xr15_2 : xRowOk (15, xmn 15 2, prog_18_method_31_code, 4, (some .int), xk15_2) = true := xRowD_ok (by decide +kernel)
theorem xr15_3 : xRowOk (15, xmn 15 3, prog_18_method_26_code, 4, (some .boolean), xk15_3) = true := xRowD_ok (by decide +kernel)
theorem xr15_4 : xRowOk (15, xmn 15 4, prog_18_method_17_code, 5, none, xk15_4) = true := xRowD_ok (by decide +kernel)
theorem xr15_5 : xRowOk (15, xmn 15 5, prog_18_method_18_code, 3, (some .int), xk15_5) = true := xRowD_ok (by decide +kernel)
theorem xr15_6 : xRowOk (15, xmn 15 6, prog_18_method_15_code, 8, (some .long), xk15_6) = true := xRowD_ok (by decide +kernel)
theorem xr15_7 : xRowOk (15, xmn 15 7, prog_18_method_1_code, 3, none, xk15_7) = true := xRowD_ok (by decide +kernel)
theorem xr15_8 : xRowOk (15, xmn 15 8, prog_18_method_3_code, 2, (some .boolean), xk15_8) = true := xRowD_ok (by decide +kernel)
theorem xr15_9 : xRowOk (15, xmn 15 9, prog_18_method_6_code, 1, (some .boolean), xk15_9) = true := xRowD_ok (by decide +kernel)
theorem xr15_10 : xRowOk (15, xmn 15 10, prog_18_method_4_code, 2, (some .boolean), xk15_10) = true := xRowD_ok (by decide +kernel)
theorem xr15_11 : xRowOk (15, xmn 15 11, prog_18_method_5_code, 1, (some .boolean), xk15_11) = true := xRowD_ok (by decide +kernel)
theorem xr15_12 : xRowOk (15, xmn 15 12, prog_18_method_7_code, 4, (some .boolean), xk15_12) = true := xRowD_ok (by decide +kernel)
theorem xr15_13 : xRowOk (15, xmn 15 13, prog_18_method_23_code, 1, (some .boolean), xk15_13) = true := xRowD_ok (by decide +kernel)
theorem xr15_14 : xRowOk (15, xmn 15 14, prog_18_method_8_code, 2, (some .boolean), xk15_14) = true := xRowD_ok (by decide +kernel)
theorem xr15_15 : xRowOk (15, xmn 15 15, prog_18_method_30_code, 4, (some .int), xk15_15) = true := xRowD_ok (by decide +kernel)
theorem xr15_16 : xRowOk (15, xmn 15 16, prog_18_method_20_code, 2, (some .int), xk15_16) = true := xRowD_ok (by decide +kernel)
theorem xr15_17 : xRowOk (15, xmn 15 17, prog_18_method_22_code, 4, (some .int), xk15_17) = true := xRowD_ok (by decide +kernel)
theorem xr15_18 : xRowOk (15, xmn 15 18, prog_18_method_25_code, 8, (some .boolean), xk15_18) = true := xRowD_ok (by decide +kernel)
theorem xr15_19 : xRowOk (15, xmn 15 19, prog_18_method_28_code, 2, (some .int), xk15_19) = true := xRowD_ok (by decide +kernel)
theorem xr15_20 : xRowOk (15, xmn 15 20, prog_18_method_12_code, 9, (some .int), xk15_20) = true := xRowD_ok (by decide +kernel)
theorem xr15_21 : xRowOk (15, xmn 15 21, prog_18_method_21_code, 2, (some .int), xk15_21) = true := xRowD_ok (by decide +kernel)
theorem xr15_22 : xRowOk (15, xmn 15 22, prog_18_method_13_code, 3, (some .boolean), xk15_22) = true := xRowD_ok (by decide +kernel)
theorem xr15_23 : xRowOk (15, xmn 15 23, prog_18_method_10_code, 11, (some .int), xk15_23) = true := xRowD_ok (by decide +kernel)
theorem xr15_24 : xRowOk (15, xmn 15 24, prog_18_method_32_code, 1, (some .int), xk15_24) = true := xRowD_ok (by decide +kernel)
theorem xr15_25 : xRowOk (15, xmn 15 25, prog_18_method_2_code, 1, (some .int), xk15_25) = true := xRowD_ok (by decide +kernel)
theorem xr15_26 : xRowOk (15, xmn 15 26, prog_18_method_16_code, 9, (some .boolean), xk15_26) = true := xRowD_ok (by decide +kernel)
theorem xr15_27 : xRowOk (15, xmn 15 27, prog_18_method_11_code, 10, (some .int), xk15_27) = true := xRowD_ok (by decide +kernel)
