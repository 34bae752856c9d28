/-! the code of class 12, in stretches -/
def xk12_0 : XB := []
def xk12_1 : XB := []
def xk12_2 : XB := [(0, [(0, .aload_n 0, 0, 0, 0), (1, .iconst 0, 0, 0, 0), (2, .putfield 164, 12, 0, 0), (5, .iload_n 1, 0, 0, 0), (6, .ifCond .lt 11, 0, 0, 0), (9, .iload_n 1, 0, 0, 0), (10, .aload_n 0, 0, 0, 0), (11, .getfield 139, 12, 304, 0), (14, .if_icmp .lt 5, 0, 0, 0)], 17),
  (17, [(17, .iconst (-1), 0, 0, 0), (18, .ireturn, 0, 0, 0)], 19),
  (19, [(19, .aload_n 0, 0, 0, 0), (20, .aload_n 0, 0, 0, 0), (21, .getfield 75, 12, 314, 0), (24, .iload_n 1, 0, 0, 0), (25, .iaload, 0, 0, 0), (26, .invokevirtual 332, 12, 257, 0), (29, .ifCond .ne 8, 0, 0, 0), (32, .bipush (-2), 0, 0, 0), (34, .goto 17, 0, 0, 0)], 37),
  (37, [(37, .aload_n 0, 0, 0, 0), (38, .getfield 305, 12, 521, 0), (41, .lconst 0, 0, 0, 0), (42, .lcmp, 0, 0, 0), (43, .ifCond .eq 7, 0, 0, 0), (46, .iconst 1, 0, 0, 0), (47, .goto 4, 0, 0, 0)], 50),
  (50, [(50, .iconst 0, 0, 0, 0)], 51),
  (51, [(51, .ireturn, 0, 0, 0)], 52)]
def xk12_3 : XB := []
def xk12_4 : XB := []
def xk12_5 : XB := []
def xk12_6 : XB := []
def xk12_7 : XB := []
def xk12_8 : XB := []
def xk12_9 : XB := []
def xk12_10 : XB := []
def xk12_11 : XB := []
def xk12_12 : XB := []
def xk12_13 : XB := [(0, [(0, .aload_n 0, 0, 0, 0), (1, .iconst 0, 0, 0, 0), (2, .putfield 117, 12, 8, 0), (5, .aload_n 0, 0, 0, 0), (6, .iconst 0, 0, 0, 0), (7, .putfield 120, 12, 224, 0), (10, .aload_n 0, 0, 0, 0), (11, .iconst 0, 0, 0, 0), (12, .putfield 123, 12, 240, 0), (15, .aload_n 0, 0, 0, 0), (16, .iconst (-1), 0, 0, 0), (17, .putfield 65, 12, 256, 0), (20, .iconst 0, 0, 0, 0), (21, .istore_n 1, 0, 0, 0)], 22),
  (22, [(22, .iload_n 1, 0, 0, 0), (23, .iconst 2, 0, 0, 0), (24, .if_icmp .ge 16, 0, 0, 0), (27, .aload_n 0, 0, 0, 0), (28, .getfield 13, 12, 34, 0), (31, .iload_n 1, 0, 0, 0), (32, .iconst 0, 0, 0, 0), (33, .iastore, 0, 0, 0), (34, .iinc 1 1, 0, 0, 0), (37, .goto (-15), 0, 0, 0)], 40),
  (40, [(40, .aload_n 0, 0, 0, 0), (41, .getfield 19, 12, 50, 0), (44, .sipush 600, 0, 0, 0), (47, .aload_n 0, 0, 0, 0), (48, .getfield 126, 12, 24, 0), (51, .imul, 0, 0, 0), (52, .bipush 20, 0, 0, 0), (54, .iastore, 0, 0, 0), (55, .aload_n 0, 0, 0, 0), (56, .invokevirtual 129, 12, 1152, 0), (59, .return_, 0, 0, 0)], 60)]
def xk12_14 : XB := []
def xk12_15 : XB := [(0, [(0, .aload_n 0, 0, 0, 0), (1, .iload_n 1, 0, 0, 0), (2, .ifCond .lt 12, 0, 0, 0), (5, .iload_n 1, 0, 0, 0), (6, .iconst 3, 0, 0, 0), (7, .if_icmp .ge 7, 0, 0, 0), (10, .iconst 0, 0, 0, 0), (11, .goto 4, 0, 0, 0)], 14),
  (14, [(14, .iconst 1, 0, 0, 0)], 15),
  (15, [(15, .putfield 164, 12, 0, 0), (18, .aload_n 0, 0, 0, 0), (19, .getfield 164, 12, 0, 0), (22, .ifCond .eq 5, 0, 0, 0), (25, .iconst 0, 0, 0, 0), (26, .ireturn, 0, 0, 0)], 27),
  (27, [(27, .iload_n 1, 0, 0, 0), (28, .ifCond .ne 10, 0, 0, 0), (31, .aload_n 0, 0, 0, 0), (32, .getfield 155, 12, 368, 0), (35, .goto 19, 0, 0, 0)], 38),
  (38, [(38, .iload_n 1, 0, 0, 0), (39, .iconst 1, 0, 0, 0), (40, .if_icmp .ne 10, 0, 0, 0), (43, .aload_n 0, 0, 0, 0), (44, .getfield 158, 12, 376, 0), (47, .goto 7, 0, 0, 0)], 50),
  (50, [(50, .aload_n 0, 0, 0, 0), (51, .getfield 161, 12, 384, 0)], 54),
  (54, [(54, .ireturn, 0, 0, 0)], 55)]
def xk12_16 : XB := []
def xk12_17 : XB := []
def xk12_18 : XB := [(0, [(0, .iconst 0, 0, 0, 0), (1, .istore_n 1, 0, 0, 0)], 2),
  (2, [(2, .iload_n 1, 0, 0, 0), (3, .bipush 26, 0, 0, 0), (5, .if_icmp .ge 16, 0, 0, 0), (8, .aload_n 0, 0, 0, 0), (9, .getfield 69, 12, 266, 0), (12, .iload_n 1, 0, 0, 0), (13, .lconst 0, 0, 0, 0), (14, .lastore, 0, 0, 0), (15, .iinc 1 1, 0, 0, 0), (18, .goto (-16), 0, 0, 0)], 21),
  (21, [(21, .aload_n 0, 0, 0, 0), (22, .lconst 0, 0, 0, 0), (23, .putfield 132, 12, 281, 0), (26, .aload_n 0, 0, 0, 0), (27, .iconst 0, 0, 0, 0), (28, .putfield 136, 12, 288, 0), (31, .aload_n 0, 0, 0, 0), (32, .iconst 0, 0, 0, 0), (33, .putfield 139, 12, 304, 0), (36, .aload_n 0, 0, 0, 0), (37, .iconst 0, 0, 0, 0), (38, .putfield 142, 12, 320, 0), (41, .aload_n 0, 0, 0, 0), (42, .iconst 0, 0, 0, 0), (43, .putfield 145, 12, 336, 0), (46, .aload_n 0, 0, 0, 0), (47, .iconst 0, 0, 0, 0), (48, .putfield 148, 12, 355, 0), (51, .aload_n 0, 0, 0, 0), (52, .iconst 0, 0, 0, 0), (53, .putfield 152, 12, 360, 0), (56, .aload_n 0, 0, 0, 0), (57, .iconst 0, 0, 0, 0), (58, .putfield 155, 12, 368, 0), (61, .aload_n 0, 0, 0, 0), (62, .iconst (-1), 0, 0, 0), (63, .putfield 158, 12, 376, 0), (66, .aload_n 0, 0, 0, 0), (67, .iconst 0, 0, 0, 0), (68, .putfield 161, 12, 384, 0), (71, .return_, 0, 0, 0)], 72)]
def xk12_19 : XB := []
def xk12_20 : XB := []
def xk12_21 : XB := []
def xk12_22 : XB := [(0, [(0, .aload_n 0, 0, 0, 0), (1, .invokespecial 1, 999, 0, 0), (4, .aload_n 0, 0, 0, 0), (5, .sipush 400, 0, 0, 0), (8, .newarray .int, 100, 0, 0), (10, .putfield 7, 12, 18, 0), (13, .aload_n 0, 0, 0, 0), (14, .iconst 2, 0, 0, 0), (15, .newarray .int, 100, 0, 0), (17, .putfield 13, 12, 34, 0), (20, .aload_n 0, 0, 0, 0), (21, .sipush 800, 0, 0, 0), (24, .newarray .int, 100, 0, 0), (26, .putfield 16, 12, 42, 0), (29, .aload_n 0, 0, 0, 0), (30, .sipush 1200, 0, 0, 0), (33, .newarray .int, 100, 0, 0), (35, .putfield 19, 12, 50, 0), (38, .aload_n 0, 0, 0, 0), (39, .sipush 1200, 0, 0, 0), (42, .newarray .int, 100, 0, 0), (44, .putfield 22, 12, 58, 0), (47, .aload_n 0, 0, 0, 0), (48, .sipush 1200, 0, 0, 0), (51, .newarray .int, 100, 0, 0), (53, .putfield 25, 12, 66, 0), (56, .aload_n 0, 0, 0, 0), (57, .sipush 1200, 0, 0, 0), (60, .newarray .int, 100, 0, 0), (62, .putfield 28, 12, 74, 0), (65, .aload_n 0, 0, 0, 0), (66, .sipush 1200, 0, 0, 0), (69, .newarray .int, 100, 0, 0), (71, .putfield 31, 12, 82, 0), (74, .aload_n 0, 0, 0, 0), (75, .sipush 1200, 0, 0, 0), (78, .newarray .int, 100, 0, 0), (80, .putfield 34, 12, 90, 0), (83, .aload_n 0, 0, 0, 0), (84, .bipush 52, 0, 0, 0), (86, .newarray .int, 100, 0, 0), (88, .putfield 37, 12, 98, 0), (91, .aload_n 0, 0, 0, 0), (92, .sipush 2000, 0, 0, 0), (95, .newarray .int, 100, 0, 0), (97, .putfield 40, 12, 106, 0), (100, .aload_n 0, 0, 0, 0), (101, .sipush 2000, 0, 0, 0), (104, .newarray .int, 100, 0, 0), (106, .putfield 43, 12, 114, 0), (109, .aload_n 0, 0, 0, 0), (110, .iconst 4, 0, 0, 0), (111, .newarray .int, 100, 0, 0), (113, .putfield 46, 12, 178, 0), (116, .aload_n 0, 0, 0, 0), (117, .iconst 4, 0, 0, 0), (118, .newarray .int, 100, 0, 0), (120, .putfield 49, 12, 186, 0), (123, .aload_n 0, 0, 0, 0), (124, .iconst 4, 0, 0, 0), (125, .newarray .int, 100, 0, 0), (127, .putfield 52, 12, 194, 0), (130, .aload_n 0, 0, 0, 0), (131, .bipush 64, 0, 0, 0), (133, .newarray .int, 100, 0, 0), (135, .putfield 55, 12, 210, 0), (138, .aload_n 0, 0, 0, 0), (139, .bipush 72, 0, 0, 0), (141, .newarray .long, 101, 0, 0), (143, .putfield 58, 12, 234, 0), (146, .aload_n 0, 0, 0, 0), (147, .bipush 20, 0, 0, 0), (149, .newarray .long, 101, 0, 0), (151, .putfield 62, 12, 250, 0), (154, .aload_n 0, 0, 0, 0), (155, .iconst (-1), 0, 0, 0), (156, .putfield 65, 12, 256, 0), (159, .aload_n 0, 0, 0, 0), (160, .bipush 26, 0, 0, 0), (162, .newarray .long, 101, 0, 0), (164, .putfield 69, 12, 266, 0), (167, .aload_n 0, 0, 0, 0), (168, .bipush 40, 0, 0, 0), (170, .newarray .int, 100, 0, 0), (172, .putfield 72, 12, 298, 0), (175, .aload_n 0, 0, 0, 0), (176, .bipush 8, 0, 0, 0), (178, .newarray .int, 100, 0, 0), (180, .putfield 75, 12, 314, 0), (183, .aload_n 0, 0, 0, 0), (184, .bipush 12, 0, 0, 0), (186, .newarray .int, 100, 0, 0), (188, .putfield 78, 12, 330, 0), (191, .aload_n 0, 0, 0, 0), (192, .bipush 20, 0, 0, 0), (194, .newarray .int, 100, 0, 0), (196, .putfield 81, 12, 346, 0), (199, .aload_n 0, 0, 0, 0), (200, .iconst 2, 0, 0, 0), (201, .newarray .int, 100, 0, 0), (203, .putfield 84, 12, 434, 0), (206, .aload_n 0, 0, 0, 0), (207, .bipush 16, 0, 0, 0), (209, .newarray .int, 100, 0, 0), (211, .putfield 87, 12, 450, 0), (214, .aload_n 0, 0, 0, 0), (215, .bipush 16, 0, 0, 0), (217, .newarray .int, 100, 0, 0), (219, .putfield 90, 12, 458, 0), (222, .aload_n 0, 0, 0, 0), (223, .bipush 16, 0, 0, 0), (225, .newarray .int, 100, 0, 0), (227, .putfield 93, 12, 466, 0), (230, .aload_n 0, 0, 0, 0), (231, .bipush 16, 0, 0, 0), (233, .newarray .int, 100, 0, 0), (235, .putfield 96, 12, 474, 0), (238, .aload_n 0, 0, 0, 0), (239, .bipush 16, 0, 0, 0), (241, .newarray .int, 100, 0, 0), (243, .putfield 99, 12, 482, 0), (246, .aload_n 0, 0, 0, 0), (247, .bipush 16, 0, 0, 0), (249, .newarray .int, 100, 0, 0), (251, .putfield 102, 12, 490, 0), (254, .aload_n 0, 0, 0, 0), (255, .sipush 1152, 0, 0, 0), (258, .newarray .long, 101, 0, 0), (260, .putfield 105, 12, 498, 0), (263, .aload_n 0, 0, 0, 0), (264, .bipush 16, 0, 0, 0), (266, .newarray .int, 100, 0, 0), (268, .putfield 108, 12, 506, 0), (271, .aload_n 0, 0, 0, 0), (272, .bipush 64, 0, 0, 0), (274, .newarray .long, 101, 0, 0), (276, .putfield 111, 12, 514, 0), (279, .aload_n 0, 0, 0, 0), (280, .invokevirtual 114, 12, 832, 0), (283, .return_, 0, 0, 0)], 284)]
def xk12_23 : XB := []
def xk12_24 : XB := []
def xk12_25 : XB := []
def xk12_26 : XB := []
def xk12_27 : XB := []
def xk12_28 : XB := []
def xk12_29 : XB := []
def xk12_30 : XB := []
def xk12_31 : XB := []
def xk12_32 : XB := []
def xk12_33 : XB := []
def xk12_34 : XB := [(0, [(0, .sipush 600, 0, 0, 0), (3, .aload_n 0, 0, 0, 0), (4, .getfield 177, 12, 120, 0), (7, .imul, 0, 0, 0), (8, .aload_n 0, 0, 0, 0), (9, .getfield 230, 12, 144, 0), (12, .iadd, 0, 0, 0), (13, .istore_n 3, 0, 0, 0), (14, .aload_n 0, 0, 0, 0), (15, .getfield 19, 12, 50, 0), (18, .iload_n 3, 0, 0, 0), (19, .iload_n 1, 0, 0, 0), (20, .iastore, 0, 0, 0), (21, .aload_n 0, 0, 0, 0), (22, .getfield 22, 12, 58, 0), (25, .iload_n 3, 0, 0, 0), (26, .iload_n 2, 0, 0, 0), (27, .iastore, 0, 0, 0), (28, .aload_n 0, 0, 0, 0), (29, .getfield 25, 12, 66, 0), (32, .iload_n 3, 0, 0, 0), (33, .iconst 0, 0, 0, 0), (34, .iastore, 0, 0, 0), (35, .aload_n 0, 0, 0, 0), (36, .getfield 28, 12, 74, 0), (39, .iload_n 3, 0, 0, 0), (40, .iconst 0, 0, 0, 0), (41, .iastore, 0, 0, 0), (42, .aload_n 0, 0, 0, 0), (43, .getfield 31, 12, 82, 0), (46, .iload_n 3, 0, 0, 0), (47, .iconst 0, 0, 0, 0), (48, .iastore, 0, 0, 0), (49, .aload_n 0, 0, 0, 0), (50, .getfield 34, 12, 90, 0), (53, .iload_n 3, 0, 0, 0), (54, .iconst 0, 0, 0, 0), (55, .iastore, 0, 0, 0), (56, .aload_n 0, 0, 0, 0), (57, .dup, 0, 0, 0), (58, .getfield 230, 12, 144, 0), (61, .iconst 1, 0, 0, 0), (62, .iadd, 0, 0, 0), (63, .putfield 230, 12, 144, 0), (66, .aload_n 0, 0, 0, 0), (67, .getfield 230, 12, 144, 0), (70, .iconst 1, 0, 0, 0), (71, .isub, 0, 0, 0), (72, .ireturn, 0, 0, 0)], 73)]
def xk12_35 : XB := [(0, [(0, .aload_n 0, 0, 0, 0), (1, .iload_n 1, 0, 0, 0), (2, .ifCond .lt 15, 0, 0, 0), (5, .iload_n 1, 0, 0, 0), (6, .aload_n 0, 0, 0, 0), (7, .getfield 136, 12, 288, 0), (10, .if_icmp .ge 7, 0, 0, 0), (13, .iconst 0, 0, 0, 0), (14, .goto 4, 0, 0, 0)], 17),
  (17, [(17, .iconst 1, 0, 0, 0)], 18),
  (18, [(18, .putfield 164, 12, 0, 0), (21, .aload_n 0, 0, 0, 0), (22, .getfield 164, 12, 0, 0), (25, .ifCond .ne 12, 0, 0, 0), (28, .aload_n 0, 0, 0, 0), (29, .getfield 72, 12, 298, 0), (32, .iload_n 1, 0, 0, 0), (33, .iaload, 0, 0, 0), (34, .goto 4, 0, 0, 0)], 37),
  (37, [(37, .iconst 0, 0, 0, 0)], 38),
  (38, [(38, .ireturn, 0, 0, 0)], 39)]
def xk12_36 : XB := []
def xk12_37 : XB := []
def xk12_38 : XB := []
def xk12_39 : XB := [(0, [(0, .aload_n 0, 0, 0, 0), (1, .iconst 0, 0, 0, 0), (2, .putfield 164, 12, 0, 0), (5, .aload_n 0, 0, 0, 0), (6, .iconst 1, 0, 0, 0), (7, .aload_n 0, 0, 0, 0), (8, .getfield 126, 12, 24, 0), (11, .isub, 0, 0, 0), (12, .putfield 177, 12, 120, 0), (15, .aload_n 0, 0, 0, 0), (16, .iconst 0, 0, 0, 0), (17, .putfield 167, 12, 128, 0), (20, .aload_n 0, 0, 0, 0), (21, .iconst (-1), 0, 0, 0), (22, .putfield 170, 12, 136, 0), (25, .aload_n 0, 0, 0, 0), (26, .iconst 0, 0, 0, 0), (27, .putfield 230, 12, 144, 0), (30, .aload_n 0, 0, 0, 0), (31, .iconst 0, 0, 0, 0), (32, .putfield 180, 12, 152, 0), (35, .aload_n 0, 0, 0, 0), (36, .iconst 0, 0, 0, 0), (37, .putfield 254, 12, 160, 0), (40, .aload_n 0, 0, 0, 0), (41, .iconst 0, 0, 0, 0), (42, .putfield 233, 12, 168, 0), (45, .iconst 0, 0, 0, 0), (46, .istore_n 1, 0, 0, 0)], 47),
  (47, [(47, .iload_n 1, 0, 0, 0), (48, .bipush 26, 0, 0, 0), (50, .if_icmp .ge 24, 0, 0, 0), (53, .aload_n 0, 0, 0, 0), (54, .getfield 37, 12, 98, 0), (57, .bipush 26, 0, 0, 0), (59, .aload_n 0, 0, 0, 0), (60, .getfield 177, 12, 120, 0), (63, .imul, 0, 0, 0), (64, .iload_n 1, 0, 0, 0), (65, .iadd, 0, 0, 0), (66, .iconst (-1), 0, 0, 0), (67, .iastore, 0, 0, 0), (68, .iinc 1 1, 0, 0, 0), (71, .goto (-24), 0, 0, 0)], 74),
  (74, [(74, .aload_n 0, 0, 0, 0), (75, .getfield 170, 12, 136, 0), (78, .iconst (-1), 0, 0, 0), (79, .if_icmp .ne 93, 0, 0, 0), (82, .aload_n 0, 0, 0, 0), (83, .getfield 167, 12, 128, 0), (86, .aload_n 0, 0, 0, 0), (87, .getfield 117, 12, 8, 0), (90, .if_icmp .lt 10, 0, 0, 0), (93, .aload_n 0, 0, 0, 0), (94, .getfield 233, 12, 168, 0), (97, .ifCond .le 75, 0, 0, 0)], 100),
  (100, [(100, .aload_n 0, 0, 0, 0), (101, .invokevirtual 173, 12, 2304, 0), (104, .bipush 10, 0, 0, 0), (106, .if_icmp .ne 16, 0, 0, 0), (109, .aload_n 0, 0, 0, 0), (110, .dup, 0, 0, 0), (111, .getfield 167, 12, 128, 0), (114, .iconst 1, 0, 0, 0), (115, .iadd, 0, 0, 0), (116, .putfield 167, 12, 128, 0), (119, .goto (-19), 0, 0, 0)], 122),
  (122, [(122, .aload_n 0, 0, 0, 0), (123, .invokevirtual 272, 12, 1536, 0), (126, .ifCond .eq 10, 0, 0, 0), (129, .aload_n 0, 0, 0, 0), (130, .invokevirtual 275, 12, 512, 0), (133, .goto (-59), 0, 0, 0)], 136),
  (136, [(136, .aload_n 0, 0, 0, 0), (137, .getfield 167, 12, 128, 0), (140, .aload_n 0, 0, 0, 0), (141, .getfield 117, 12, 8, 0), (144, .if_icmp .ge 10, 0, 0, 0), (147, .aload_n 0, 0, 0, 0), (148, .invokevirtual 278, 12, 2944, 0), (151, .goto (-77), 0, 0, 0)], 154),
  (154, [(154, .aload_n 0, 0, 0, 0), (155, .getfield 233, 12, 168, 0), (158, .ifCond .le (-84), 0, 0, 0), (161, .aload_n 0, 0, 0, 0), (162, .aload_n 0, 0, 0, 0), (163, .getfield 167, 12, 128, 0), (166, .putfield 170, 12, 136, 0), (169, .goto (-95), 0, 0, 0)], 172),
  (172, [(172, .aload_n 0, 0, 0, 0), (173, .getfield 117, 12, 8, 0), (176, .istore_n 1, 0, 0, 0), (177, .aload_n 0, 0, 0, 0), (178, .iconst 0, 0, 0, 0), (179, .putfield 117, 12, 8, 0), (182, .aload_n 0, 0, 0, 0), (183, .getfield 170, 12, 136, 0), (186, .iconst (-1), 0, 0, 0), (187, .if_icmp .eq 10, 0, 0, 0), (190, .iconst (-1), 0, 0, 0), (191, .aload_n 0, 0, 0, 0), (192, .getfield 170, 12, 136, 0), (195, .isub, 0, 0, 0), (196, .ireturn, 0, 0, 0)], 197),
  (197, [(197, .aload_n 0, 0, 0, 0), (198, .bipush 20, 0, 0, 0), (200, .iconst 0, 0, 0, 0), (201, .invokevirtual 236, 12, 2178, 0), (204, .pop, 0, 0, 0), (205, .iconst 0, 0, 0, 0), (206, .istore_n 2, 0, 0, 0)], 207),
  (207, [(207, .iload_n 2, 0, 0, 0), (208, .iload_n 1, 0, 0, 0), (209, .if_icmp .ge 30, 0, 0, 0), (212, .aload_n 0, 0, 0, 0), (213, .getfield 16, 12, 42, 0), (216, .sipush 400, 0, 0, 0), (219, .aload_n 0, 0, 0, 0), (220, .getfield 177, 12, 120, 0), (223, .imul, 0, 0, 0), (224, .iload_n 2, 0, 0, 0), (225, .iadd, 0, 0, 0), (226, .aload_n 0, 0, 0, 0), (227, .getfield 7, 12, 18, 0), (230, .iload_n 2, 0, 0, 0), (231, .iaload, 0, 0, 0), (232, .iastore, 0, 0, 0), (233, .iinc 2 1, 0, 0, 0), (236, .goto (-29), 0, 0, 0)], 239),
  (239, [(239, .aload_n 0, 0, 0, 0), (240, .getfield 13, 12, 34, 0), (243, .aload_n 0, 0, 0, 0), (244, .getfield 177, 12, 120, 0), (247, .iload_n 1, 0, 0, 0), (248, .iastore, 0, 0, 0), (249, .aload_n 0, 0, 0, 0), (250, .aload_n 0, 0, 0, 0), (251, .getfield 177, 12, 120, 0), (254, .putfield 126, 12, 24, 0), (257, .aload_n 0, 0, 0, 0), (258, .invokevirtual 129, 12, 1152, 0), (261, .aload_n 0, 0, 0, 0), (262, .getfield 254, 12, 160, 0), (265, .ireturn, 0, 0, 0)], 266)]
def xk12_40 : XB := []
def xk12_41 : XB := []
def xk12_42 : XB := []
def xk12_43 : XB := []
def xk12_44 : XB := []
def xk12_45 : XB := []
def xk12_46 : XB := []
def xk12_47 : XB := []
def xk12_48 : XB := [(0, [(0, .aload_n 0, 0, 0, 0), (1, .lload_n 1, 0, 0, 0), (2, .lconst 1, 0, 0, 0), (3, .lcmp, 0, 0, 0), (4, .ifCond .lt 15, 0, 0, 0), (7, .lload_n 1, 0, 0, 0), (8, .ldc2_w 365, 0, 0, 300), (11, .lcmp, 0, 0, 0), (12, .ifCond .gt 7, 0, 0, 0), (15, .iconst 0, 0, 0, 0), (16, .goto 4, 0, 0, 0)], 19),
  (19, [(19, .iconst 1, 0, 0, 0)], 20),
  (20, [(20, .putfield 164, 12, 0, 0), (23, .aload_n 0, 0, 0, 0), (24, .getfield 164, 12, 0, 0), (27, .ifCond .eq 5, 0, 0, 0), (30, .iconst 0, 0, 0, 0), (31, .ireturn, 0, 0, 0)], 32),
  (32, [(32, .aload_n 0, 0, 0, 0), (33, .invokevirtual 129, 12, 1152, 0), (36, .aload_n 0, 0, 0, 0), (37, .lload_n 1, 0, 0, 0), (38, .putfield 326, 12, 273, 0), (41, .aload_n 0, 0, 0, 0), (42, .iconst 0, 0, 0, 0), (43, .putfield 323, 12, 395, 0), (46, .aload_n 0, 0, 0, 0), (47, .iconst 0, 0, 0, 0), (48, .putfield 320, 12, 400, 0), (51, .aload_n 0, 0, 0, 0), (52, .iconst 0, 0, 0, 0), (53, .putfield 317, 12, 416, 0), (56, .aload_n 0, 0, 0, 0), (57, .iconst 0, 0, 0, 0), (58, .putfield 311, 12, 424, 0), (61, .aload_n 0, 0, 0, 0), (62, .iconst 0, 0, 0, 0), (63, .putfield 308, 12, 440, 0)], 66),
  (66, [(66, .aload_n 0, 0, 0, 0), (67, .getfield 323, 12, 395, 0), (70, .ifCond .ne 10, 0, 0, 0), (73, .aload_n 0, 0, 0, 0), (74, .invokevirtual 367, 12, 3520, 0), (77, .goto (-11), 0, 0, 0)], 80),
  (80, [(80, .aload_n 0, 0, 0, 0), (81, .getfield 320, 12, 400, 0), (84, .ireturn, 0, 0, 0)], 85)]
def xk12_49 : XB := []
def xk12_50 : XB := []
def xk12_51 : XB := []
def xk12_52 : XB := []
def xk12_53 : XB := [(0, [(0, .aload_n 0, 0, 0, 0), (1, .getfield 164, 12, 0, 0), (4, .ireturn, 0, 0, 0)], 5)]
def xk12_54 : XB := []
def xk12_55 : XB := [(0, [(0, .sipush 600, 0, 0, 0), (3, .aload_n 0, 0, 0, 0), (4, .getfield 126, 12, 24, 0), (7, .imul, 0, 0, 0), (8, .aload_n 0, 0, 0, 0), (9, .getfield 317, 12, 416, 0), (12, .iadd, 0, 0, 0), (13, .istore_n 1, 0, 0, 0), (14, .aload_n 0, 0, 0, 0), (15, .getfield 19, 12, 50, 0), (18, .iload_n 1, 0, 0, 0), (19, .iaload, 0, 0, 0), (20, .istore_n 2, 0, 0, 0), (21, .aload_n 0, 0, 0, 0), (22, .dup, 0, 0, 0), (23, .getfield 317, 12, 416, 0), (26, .iconst 1, 0, 0, 0), (27, .iadd, 0, 0, 0), (28, .putfield 317, 12, 416, 0), (31, .iload_n 2, 0, 0, 0), (32, .tableswitch 136 8 20 #[109, 136, 120, 131, 136, 136, 136, 136, 136, 74, 136, 85, 68], 0, 0, 0)], 100),
  (100, [(100, .aload_n 0, 0, 0, 0), (101, .iconst 1, 0, 0, 0), (102, .putfield 323, 12, 395, 0), (105, .return_, 0, 0, 0)], 106),
  (106, [(106, .aload_n 0, 0, 0, 0), (107, .aload_n 0, 0, 0, 0), (108, .getfield 34, 12, 90, 0), (111, .iload_n 1, 0, 0, 0), (112, .iaload, 0, 0, 0), (113, .putfield 317, 12, 416, 0), (116, .return_, 0, 0, 0)], 117),
  (117, [(117, .aload_n 0, 0, 0, 0), (118, .dup, 0, 0, 0), (119, .getfield 311, 12, 424, 0), (122, .iconst 1, 0, 0, 0), (123, .isub, 0, 0, 0), (124, .putfield 311, 12, 424, 0), (127, .aload_n 0, 0, 0, 0), (128, .aload_n 0, 0, 0, 0), (129, .getfield 84, 12, 434, 0), (132, .aload_n 0, 0, 0, 0), (133, .getfield 311, 12, 424, 0), (136, .iaload, 0, 0, 0), (137, .putfield 317, 12, 416, 0), (140, .return_, 0, 0, 0)], 141),
  (141, [(141, .aload_n 0, 0, 0, 0), (142, .aload_n 0, 0, 0, 0), (143, .getfield 22, 12, 58, 0), (146, .iload_n 1, 0, 0, 0), (147, .iaload, 0, 0, 0), (148, .invokevirtual 341, 12, 897, 0), (151, .return_, 0, 0, 0)], 152),
  (152, [(152, .aload_n 0, 0, 0, 0), (153, .aload_n 0, 0, 0, 0), (154, .getfield 22, 12, 58, 0), (157, .iload_n 1, 0, 0, 0), (158, .iaload, 0, 0, 0), (159, .invokevirtual 344, 12, 385, 0), (162, .return_, 0, 0, 0)], 163),
  (163, [(163, .aload_n 0, 0, 0, 0), (164, .invokevirtual 347, 12, 576, 0), (167, .return_, 0, 0, 0)], 168),
  (168, [(168, .aload_n 0, 0, 0, 0), (169, .aload_n 0, 0, 0, 0), (170, .getfield 22, 12, 58, 0), (173, .iload_n 1, 0, 0, 0), (174, .iaload, 0, 0, 0), (175, .invokevirtual 350, 12, 3201, 0), (178, .ifCond .ne 4, 0, 0, 0), (181, .return_, 0, 0, 0)], 182),
  (182, [(182, .iload_n 2, 0, 0, 0), (183, .tableswitch 137 1 18 #[85, 85, 85, 137, 137, 137, 92, 137, 113, 137, 137, 137, 137, 137, 137, 137, 137, 126], 0, 0, 0)], 268),
  (268, [(268, .aload_n 0, 0, 0, 0), (269, .iload_n 2, 0, 0, 0), (270, .iload_n 1, 0, 0, 0), (271, .invokevirtual 353, 12, 3266, 0), (274, .return_, 0, 0, 0)], 275),
  (275, [(275, .aload_n 0, 0, 0, 0), (276, .bipush 7, 0, 0, 0), (278, .aload_n 0, 0, 0, 0), (279, .getfield 152, 12, 360, 0), (282, .invokevirtual 356, 12, 1218, 0), (285, .aload_n 0, 0, 0, 0), (286, .dup, 0, 0, 0), (287, .getfield 152, 12, 360, 0), (290, .iconst 1, 0, 0, 0), (291, .iadd, 0, 0, 0), (292, .putfield 152, 12, 360, 0), (295, .return_, 0, 0, 0)], 296),
  (296, [(296, .aload_n 0, 0, 0, 0), (297, .bipush 9, 0, 0, 0), (299, .aload_n 0, 0, 0, 0), (300, .getfield 34, 12, 90, 0), (303, .iload_n 1, 0, 0, 0), (304, .iaload, 0, 0, 0), (305, .invokevirtual 356, 12, 1218, 0), (308, .return_, 0, 0, 0)], 309),
  (309, [(309, .aload_n 0, 0, 0, 0), (310, .aload_n 0, 0, 0, 0), (311, .getfield 25, 12, 66, 0), (314, .iload_n 1, 0, 0, 0), (315, .iaload, 0, 0, 0), (316, .invokevirtual 359, 12, 449, 0), (319, .return_, 0, 0, 0)], 320),
  (320, [(320, .aload_n 0, 0, 0, 0), (321, .iload_n 2, 0, 0, 0), (322, .iload_n 1, 0, 0, 0), (323, .invokevirtual 362, 12, 2, 0), (326, .return_, 0, 0, 0)], 327)]
def xk12 : List XB := [xk12_0, xk12_1, xk12_2, xk12_3, xk12_4, xk12_5, xk12_6, xk12_7, xk12_8, xk12_9, xk12_10, xk12_11, xk12_12, xk12_13, xk12_14, xk12_15, xk12_16, xk12_17, xk12_18, xk12_19, xk12_20, xk12_21, xk12_22, xk12_23, xk12_24, xk12_25, xk12_26, xk12_27, xk12_28, xk12_29, xk12_30, xk12_31, xk12_32, xk12_33, xk12_34, xk12_35, xk12_36, xk12_37, xk12_38, xk12_39, xk12_40, xk12_41, xk12_42, xk12_43, xk12_44, xk12_45, xk12_46, xk12_47, xk12_48, xk12_49, xk12_50, xk12_51, xk12_52, xk12_53, xk12_54, xk12_55]
theorem xr12_0 : xRowOk (12, xmn 12 0, prog_15_method_51_code, 3, none, xk12_0) = true := by decide +kernel
theorem xr12_1 : xRowOk (12, xmn 12 1, prog_15_method_36_code, 4, (some .int), xk12_1) = true := by decide +kernel
theorem xr12_2 : xRowOk (12, xmn 12 2, prog_15_method_63_code, 2, (some .int), xk12_2) = true := by decide +kernel
theorem xr12_3 : xRowOk (12, xmn 12 3, prog_15_method_24_code, 2, none, xk12_3) = true := by decide +kernel
theorem xr12_4 : xRowOk (12, xmn 12 4, prog_15_method_44_code, 7, (some .boolean), xk12_4) = true := by decide +kernel
theorem xr12_5 : xRowOk (12, xmn 12 5, prog_15_method_50_code, 6, none, xk12_5) = true := by decide +kernel
theorem xr12_6 : xRowOk (12, xmn 12 6, prog_15_method_54_code, 2, none, xk12_6) = true := by decide +kernel
theorem xr12_7 : xRowOk (12, xmn 12 7, prog_15_method_52_code, 3, none, xk12_7) = true := by decide +kernel
theorem xr12_8 : xRowOk (12, xmn 12 8, prog_15_method_25_code, 5, none, xk12_8) = true := by decide +kernel
theorem xr12_9 : xRowOk (12, xmn 12 9, prog_15_method_53_code, 2, none, xk12_9) = true := by decide +kernel
theorem xr12_10 : xRowOk (12, xmn 12 10, prog_15_method_12_code, 3, none, xk12_10) = true := by decide +kernel
theorem xr12_11 : xRowOk (12, xmn 12 11, prog_15_method_17_code, 3, none, xk12_11) = true := by decide +kernel
theorem xr12_12 : xRowOk (12, xmn 12 12, prog_15_method_15_code, 2, none, xk12_12) = true := by decide +kernel
theorem xr12_13 : xRowOk (12, xmn 12 13, prog_15_method_2_code, 2, none, xk12_13) = true := by decide +kernel
theorem xr12_14 : xRowOk (12, xmn 12 14, prog_15_method_55_code, 2, none, xk12_14) = true := by decide +kernel
theorem xr12_15 : xRowOk (12, xmn 12 15, prog_15_method_60_code, 2, (some .int), xk12_15) = true := by decide +kernel
theorem xr12_16 : xRowOk (12, xmn 12 16, prog_15_method_8_code, 2, none, xk12_16) = true := by decide +kernel
theorem xr12_17 : xRowOk (12, xmn 12 17, prog_15_method_38_code, 5, (some .boolean), xk12_17) = true := by decide +kernel
theorem xr12_18 : xRowOk (12, xmn 12 18, prog_15_method_3_code, 2, none, xk12_18) = true := by decide +kernel
theorem xr12_19 : xRowOk (12, xmn 12 19, prog_15_method_47_code, 5, none, xk12_19) = true := by decide +kernel
theorem xr12_20 : xRowOk (12, xmn 12 20, prog_15_method_20_code, 2, (some .boolean), xk12_20) = true := by decide +kernel
theorem xr12_21 : xRowOk (12, xmn 12 21, prog_15_method_19_code, 3, (some .boolean), xk12_21) = true := by decide +kernel
theorem xr12_22 : xRowOk (12, xmn 12 22, prog_15_method_1_code, 1, none, xk12_22) = true := by decide +kernel
theorem xr12_23 : xRowOk (12, xmn 12 23, prog_15_method_9_code, 1, (some .boolean), xk12_23) = true := by decide +kernel
theorem xr12_24 : xRowOk (12, xmn 12 24, prog_15_method_32_code, 1, (some .boolean), xk12_24) = true := by decide +kernel
theorem xr12_25 : xRowOk (12, xmn 12 25, prog_15_method_35_code, 3, (some .boolean), xk12_25) = true := by decide +kernel
theorem xr12_26 : xRowOk (12, xmn 12 26, prog_15_method_11_code, 1, (some .boolean), xk12_26) = true := by decide +kernel
theorem xr12_27 : xRowOk (12, xmn 12 27, prog_15_method_13_code, 1, (some .boolean), xk12_27) = true := by decide +kernel
theorem xr12_28 : xRowOk (12, xmn 12 28, prog_15_method_34_code, 3, (some .boolean), xk12_28) = true := by decide +kernel
theorem xr12_29 : xRowOk (12, xmn 12 29, prog_15_method_10_code, 1, (some .boolean), xk12_29) = true := by decide +kernel
theorem xr12_30 : xRowOk (12, xmn 12 30, prog_15_method_40_code, 4, (some .boolean), xk12_30) = true := by decide +kernel
theorem xr12_31 : xRowOk (12, xmn 12 31, prog_15_method_16_code, 2, none, xk12_31) = true := by decide +kernel
theorem xr12_32 : xRowOk (12, xmn 12 32, prog_15_method_37_code, 2, (some .int), xk12_32) = true := by decide +kernel
theorem xr12_33 : xRowOk (12, xmn 12 33, prog_15_method_23_code, 4, none, xk12_33) = true := by decide +kernel
theorem xr12_34 : xRowOk (12, xmn 12 34, prog_15_method_22_code, 4, (some .int), xk12_34) = true := by decide +kernel
theorem xr12_35 : xRowOk (12, xmn 12 35, prog_15_method_59_code, 2, (some .int), xk12_35) = true := by decide +kernel
theorem xr12_36 : xRowOk (12, xmn 12 36, prog_15_method_7_code, 1, (some .int), xk12_36) = true := by decide +kernel
theorem xr12_37 : xRowOk (12, xmn 12 37, prog_15_method_46_code, 3, none, xk12_37) = true := by decide +kernel
theorem xr12_38 : xRowOk (12, xmn 12 38, prog_15_method_45_code, 6, none, xk12_38) = true := by decide +kernel
theorem xr12_39 : xRowOk (12, xmn 12 39, prog_15_method_33_code, 3, (some .int), xk12_39) = true := by decide +kernel
theorem xr12_40 : xRowOk (12, xmn 12 40, prog_15_method_30_code, 5, none, xk12_40) = true := by decide +kernel
theorem xr12_41 : xRowOk (12, xmn 12 41, prog_15_method_21_code, 6, (some .int), xk12_41) = true := by decide +kernel
theorem xr12_42 : xRowOk (12, xmn 12 42, prog_15_method_26_code, 4, none, xk12_42) = true := by decide +kernel
theorem xr12_43 : xRowOk (12, xmn 12 43, prog_15_method_18_code, 4, none, xk12_43) = true := by decide +kernel
theorem xr12_44 : xRowOk (12, xmn 12 44, prog_15_method_28_code, 6, none, xk12_44) = true := by decide +kernel
theorem xr12_45 : xRowOk (12, xmn 12 45, prog_15_method_27_code, 4, (some .int), xk12_45) = true := by decide +kernel
theorem xr12_46 : xRowOk (12, xmn 12 46, prog_15_method_31_code, 4, none, xk12_46) = true := by decide +kernel
theorem xr12_47 : xRowOk (12, xmn 12 47, prog_15_method_43_code, 5, (some .long), xk12_47) = true := by decide +kernel
theorem xr12_48 : xRowOk (12, xmn 12 48, prog_15_method_57_code, 3, (some .int), xk12_48) = true := by decide +kernel
theorem xr12_49 : xRowOk (12, xmn 12 49, prog_15_method_29_code, 1, (some .int), xk12_49) = true := by decide +kernel
theorem xr12_50 : xRowOk (12, xmn 12 50, prog_15_method_48_code, 2, (some .boolean), xk12_50) = true := by decide +kernel
theorem xr12_51 : xRowOk (12, xmn 12 51, prog_15_method_49_code, 7, none, xk12_51) = true := by decide +kernel
theorem xr12_52 : xRowOk (12, xmn 12 52, prog_15_method_14_code, 1, (some .int), xk12_52) = true := by decide +kernel
theorem xr12_53 : xRowOk (12, xmn 12 53, prog_15_method_4_code, 1, (some .int), xk12_53) = true := by decide +kernel
theorem xr12_54 : xRowOk (12, xmn 12 54, prog_15_method_6_code, 2, (some .boolean), xk12_54) = true := by decide +kernel
theorem xr12_55 : xRowOk (12, xmn 12 55, prog_15_method_56_code, 3, none, xk12_55) = true := by decide +kernel
