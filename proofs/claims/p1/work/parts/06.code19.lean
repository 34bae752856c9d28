/-! the code of class 19, in stretches -/
def xk19_0 : XB := [(0, [(0, .aload_n 0, 0, 0, 0), (1, .aload_n 0, 0, 0, 0), (2, .iload_n 1, 0, 0, 0), (3, .invokevirtual 175, 19, 1153, 0), (6, .ifCond .ne 7, 0, 0, 0), (9, .iconst 1, 0, 0, 0), (10, .goto 27, 0, 0, 0)], 13),
  (13, [(13, .iload_n 2, 0, 0, 0), (14, .ifCond .lt 22, 0, 0, 0), (17, .iload_n 2, 0, 0, 0), (18, .bipush 16, 0, 0, 0), (20, .if_icmp .ge 16, 0, 0, 0), (23, .iload_n 3, 0, 0, 0), (24, .ifCond .lt 12, 0, 0, 0), (27, .iload_n 3, 0, 0, 0), (28, .iconst 4, 0, 0, 0), (29, .if_icmp .ge 7, 0, 0, 0), (32, .iconst 0, 0, 0, 0), (33, .goto 4, 0, 0, 0)], 36),
  (36, [(36, .iconst 2, 0, 0, 0)], 37),
  (37, [(37, .putfield 146, 19, 0, 0), (40, .aload_n 0, 0, 0, 0), (41, .getfield 146, 19, 0, 0), (44, .ifCond .eq 5, 0, 0, 0), (47, .iconst 0, 0, 0, 0), (48, .ireturn, 0, 0, 0)], 49),
  (49, [(49, .aload_n 0, 0, 0, 0), (50, .getfield 52, 19, 154, 0), (53, .bipush 16, 0, 0, 0), (55, .iload_n 1, 0, 0, 0), (56, .imul, 0, 0, 0), (57, .iload_n 2, 0, 0, 0), (58, .iadd, 0, 0, 0), (59, .iconst 1, 0, 0, 0), (60, .iload_n 3, 0, 0, 0), (61, .iadd, 0, 0, 0), (62, .iastore, 0, 0, 0), (63, .aload_n 0, 0, 0, 0), (64, .iload_n 1, 0, 0, 0), (65, .iconst 0, 0, 0, 0), (66, .iload_n 2, 0, 0, 0), (67, .iload_n 3, 0, 0, 0), (68, .invokevirtual 241, 19, 1412, 0), (71, .aload_n 0, 0, 0, 0), (72, .iload_n 1, 0, 0, 0), (73, .invokevirtual 245, 19, 961, 0), (76, .ifCond .eq 7, 0, 0, 0), (79, .iconst 1, 0, 0, 0), (80, .goto 4, 0, 0, 0)], 83),
  (83, [(83, .iconst 0, 0, 0, 0)], 84),
  (84, [(84, .ireturn, 0, 0, 0)], 85)]
def xk19_1 : XB := []
def xk19_2 : XB := []
def xk19_3 : XB := []
def xk19_4 : XB := []
def xk19_5 : XB := []
def xk19_6 : XB := []
def xk19_7 : XB := []
def xk19_8 : XB := []
def xk19_9 : XB := []
def xk19_10 : XB := []
def xk19_11 : XB := []
def xk19_12 : XB := []
def xk19_13 : XB := []
def xk19_14 : XB := [(0, [(0, .aload_n 0, 0, 0, 0), (1, .invokespecial 1, 999, 0, 0), (4, .aload_n 0, 0, 0, 0), (5, .bipush 64, 0, 0, 0), (7, .newarray .int, 100, 0, 0), (9, .putfield 7, 19, 10, 0), (12, .aload_n 0, 0, 0, 0), (13, .sipush 512, 0, 0, 0), (16, .newarray .int, 100, 0, 0), (18, .putfield 13, 19, 26, 0), (21, .aload_n 0, 0, 0, 0), (22, .bipush 64, 0, 0, 0), (24, .newarray .int, 100, 0, 0), (26, .putfield 16, 19, 34, 0), (29, .aload_n 0, 0, 0, 0), (30, .bipush 8, 0, 0, 0), (32, .newarray .int, 100, 0, 0), (34, .putfield 19, 19, 42, 0), (37, .aload_n 0, 0, 0, 0), (38, .bipush 8, 0, 0, 0), (40, .newarray .int, 100, 0, 0), (42, .putfield 22, 19, 50, 0), (45, .aload_n 0, 0, 0, 0), (46, .bipush 32, 0, 0, 0), (48, .newarray .int, 100, 0, 0), (50, .putfield 25, 19, 58, 0), (53, .aload_n 0, 0, 0, 0), (54, .bipush 11, 0, 0, 0), (56, .newarray .int, 100, 0, 0), (58, .putfield 28, 19, 74, 0), (61, .aload_n 0, 0, 0, 0), (62, .bipush 88, 0, 0, 0), (64, .newarray .int, 100, 0, 0), (66, .putfield 31, 19, 82, 0), (69, .aload_n 0, 0, 0, 0), (70, .bipush 88, 0, 0, 0), (72, .newarray .int, 100, 0, 0), (74, .putfield 34, 19, 90, 0), (77, .aload_n 0, 0, 0, 0), (78, .sipush 5632, 0, 0, 0), (81, .newarray .int, 100, 0, 0), (83, .putfield 37, 19, 98, 0), (86, .aload_n 0, 0, 0, 0), (87, .sipush 2560, 0, 0, 0), (90, .newarray .int, 100, 0, 0), (92, .putfield 40, 19, 106, 0), (95, .aload_n 0, 0, 0, 0), (96, .sipush 320, 0, 0, 0), (99, .newarray .int, 100, 0, 0), (101, .putfield 43, 19, 114, 0), (104, .aload_n 0, 0, 0, 0), (105, .sipush 256, 0, 0, 0), (108, .newarray .int, 100, 0, 0), (110, .putfield 46, 19, 130, 0), (113, .aload_n 0, 0, 0, 0), (114, .sipush 300, 0, 0, 0), (117, .newarray .int, 100, 0, 0), (119, .putfield 49, 19, 146, 0), (122, .aload_n 0, 0, 0, 0), (123, .sipush 160, 0, 0, 0), (126, .newarray .int, 100, 0, 0), (128, .putfield 52, 19, 154, 0), (131, .aload_n 0, 0, 0, 0), (132, .bipush 10, 0, 0, 0), (134, .newarray .boolean, 103, 0, 0), (136, .putfield 55, 19, 162, 0), (139, .aload_n 0, 0, 0, 0), (140, .bipush 60, 0, 0, 0), (142, .newarray .int, 100, 0, 0), (144, .putfield 59, 19, 186, 0), (147, .aload_n 0, 0, 0, 0), (148, .bipush 100, 0, 0, 0), (150, .newarray .int, 100, 0, 0), (152, .putfield 62, 19, 202, 0), (155, .aload_n 0, 0, 0, 0), (156, .bipush 100, 0, 0, 0), (158, .newarray .int, 100, 0, 0), (160, .putfield 65, 19, 210, 0), (163, .aload_n 0, 0, 0, 0), (164, .bipush 100, 0, 0, 0), (166, .newarray .int, 100, 0, 0), (168, .putfield 68, 19, 218, 0), (171, .aload_n 0, 0, 0, 0), (172, .bipush 100, 0, 0, 0), (174, .newarray .int, 100, 0, 0), (176, .putfield 71, 19, 226, 0), (179, .aload_n 0, 0, 0, 0), (180, .iconst 0, 0, 0, 0), (181, .ldc2_w 74, 0, 0, 4794697085070296209), (184, .ldc2_w 76, 0, 0, -5349999486918337627), (187, .ldc2_w 78, 0, 0, 4131703405765792241), (190, .ldc2_w 80, 0, 0, -7908458776882290987), (193, .invokevirtual 82, 19, 1989, 0), (196, .aload_n 0, 0, 0, 0), (197, .bipush 8, 0, 0, 0), (199, .ldc2_w 86, 0, 0, -2880145866557793535), (202, .ldc2_w 88, 0, 0, 2608012711741390275), (205, .ldc2_w 90, 0, 0, 8268148720858477054), (208, .ldc2_w 92, 0, 0, -7215885185376849548), (211, .invokevirtual 82, 19, 1989, 0), (214, .aload_n 0, 0, 0, 0), (215, .bipush 16, 0, 0, 0), (217, .ldc2_w 94, 0, 0, -1973867730000001146), (220, .ldc2_w 96, 0, 0, 1135362055407968716), (223, .ldc2_w 98, 0, 0, 3308224257782482090), (226, .ldc2_w 100, 0, 0, 6679025011744409818), (229, .invokevirtual 82, 19, 1989, 0), (232, .aload_n 0, 0, 0, 0), (233, .bipush 24, 0, 0, 0), (235, .ldc2_w 102, 0, 0, -7476448915937442195), (238, .ldc2_w 104, 0, 0, -5763719354946846777), (241, .ldc2_w 106, 0, 0, -4116276917527146169), (244, .ldc2_w 108, 0, 0, 489312709404862823), (247, .invokevirtual 82, 19, 1989, 0), (250, .aload_n 0, 0, 0, 0), (251, .bipush 32, 0, 0, 0), (253, .ldc2_w 110, 0, 0, 2861767655337697592), (256, .ldc2_w 112, 0, 0, 5560940570391088403), (259, .ldc2_w 114, 0, 0, 7280758554198936251), (262, .ldc2_w 116, 0, 0, -9096487095472345979), (265, .invokevirtual 82, 19, 1989, 0), (268, .aload_n 0, 0, 0, 0), (269, .bipush 40, 0, 0, 0), (271, .ldc2_w 118, 0, 0, -6719396338005809589), (274, .ldc2_w 120, 0, 0, -4446306890599870045), (277, .ldc2_w 122, 0, 0, -3345356375510677980), (280, .ldc2_w 124, 0, 0, -860691633158840208), (283, .invokevirtual 82, 19, 1989, 0), (286, .aload_n 0, 0, 0, 0), (287, .bipush 48, 0, 0, 0), (289, .ldc2_w 126, 0, 0, 1847814047869135880), (292, .ldc2_w 128, 0, 0, 2830643534987574453), (295, .ldc2_w 130, 0, 0, 4115178123771292234), (298, .ldc2_w 132, 0, 0, 6601373596217405427), (301, .invokevirtual 82, 19, 1989, 0), (304, .aload_n 0, 0, 0, 0), (305, .bipush 56, 0, 0, 0), (307, .ldc2_w 134, 0, 0, 8399075790807196527), (310, .ldc2_w 136, 0, 0, -8878714635704401400), (313, .ldc2_w 138, 0, 0, -8016688834709263125), (316, .ldc2_w 140, 0, 0, -4685533652720715534), (319, .invokevirtual 82, 19, 1989, 0), (322, .return_, 0, 0, 0)], 323)]
def xk19_15 : XB := []
def xk19_16 : XB := []
def xk19_17 : XB := [(0, [(0, .aload_n 0, 0, 0, 0), (1, .iload_n 1, 0, 0, 0), (2, .invokevirtual 175, 19, 1153, 0), (5, .ifCond .eq 21, 0, 0, 0), (8, .iload_n 2, 0, 0, 0), (9, .ifCond .lt 17, 0, 0, 0), (12, .iload_n 2, 0, 0, 0), (13, .aload_n 0, 0, 0, 0), (14, .getfield 28, 19, 74, 0), (17, .iload_n 1, 0, 0, 0), (18, .iaload, 0, 0, 0), (19, .if_icmp .ge 7, 0, 0, 0), (22, .iconst 1, 0, 0, 0), (23, .goto 4, 0, 0, 0)], 26),
  (26, [(26, .iconst 0, 0, 0, 0)], 27),
  (27, [(27, .ireturn, 0, 0, 0)], 28)]
def xk19_18 : XB := [(0, [(0, .iload_n 1, 0, 0, 0), (1, .ifCond .lt 15, 0, 0, 0), (4, .iload_n 1, 0, 0, 0), (5, .aload_n 0, 0, 0, 0), (6, .getfield 172, 19, 64, 0), (9, .if_icmp .ge 7, 0, 0, 0), (12, .iconst 1, 0, 0, 0), (13, .goto 4, 0, 0, 0)], 16),
  (16, [(16, .iconst 0, 0, 0, 0)], 17),
  (17, [(17, .ireturn, 0, 0, 0)], 18)]
def xk19_19 : XB := []
def xk19_20 : XB := []
def xk19_21 : XB := []
def xk19_22 : XB := []
def xk19_23 : XB := []
def xk19_24 : XB := [(0, [(0, .aload_n 0, 0, 0, 0), (1, .aload_n 0, 0, 0, 0), (2, .iload_n 1, 0, 0, 0), (3, .iload_n 2, 0, 0, 0), (4, .invokevirtual 218, 19, 1090, 0), (7, .ifCond .eq 11, 0, 0, 0), (10, .iload_n 3, 0, 0, 0), (11, .ifCond .lt 7, 0, 0, 0), (14, .iconst 0, 0, 0, 0), (15, .goto 4, 0, 0, 0)], 18),
  (18, [(18, .iconst 1, 0, 0, 0)], 19),
  (19, [(19, .putfield 146, 19, 0, 0), (22, .aload_n 0, 0, 0, 0), (23, .getfield 146, 19, 0, 0), (26, .ifCond .eq 5, 0, 0, 0), (29, .iconst 0, 0, 0, 0), (30, .ireturn, 0, 0, 0)], 31),
  (31, [(31, .aload_n 0, 0, 0, 0), (32, .iload_n 3, 0, 0, 0), (33, .invokevirtual 222, 19, 65, 0), (36, .aload_n 0, 0, 0, 0), (37, .iload_n 2, 0, 0, 0), (38, .aload_n 0, 0, 0, 0), (39, .getfield 28, 19, 74, 0), (42, .iload_n 1, 0, 0, 0), (43, .iaload, 0, 0, 0), (44, .invokestatic 225, 19, 1922, 0), (47, .invokevirtual 228, 19, 1793, 0), (50, .aload_n 0, 0, 0, 0), (51, .iload_n 1, 0, 0, 0), (52, .invokevirtual 196, 19, 1217, 0), (55, .iload_n 2, 0, 0, 0), (56, .istore 4, 0, 0, 0)], 58),
  (58, [(58, .aload_n 0, 0, 0, 0), (59, .getfield 199, 19, 120, 0), (62, .iconst 1, 0, 0, 0), (63, .if_icmp .le 80, 0, 0, 0), (66, .iload 4, 0, 0, 0), (68, .iconst 1, 0, 0, 0), (69, .ixor, 0, 0, 0), (70, .istore 5, 0, 0, 0), (72, .iload 5, 0, 0, 0), (74, .aload_n 0, 0, 0, 0), (75, .getfield 199, 19, 120, 0), (78, .if_icmp .ge 52, 0, 0, 0), (81, .aload_n 0, 0, 0, 0), (82, .iload 5, 0, 0, 0), (84, .iload 4, 0, 0, 0), (86, .if_icmp .ge 7, 0, 0, 0), (89, .iconst 0, 0, 0, 0), (90, .goto 4, 0, 0, 0)], 93),
  (93, [(93, .iconst 1, 0, 0, 0)], 94),
  (94, [(94, .invokevirtual 228, 19, 1793, 0), (97, .iconst 0, 0, 0, 0), (98, .istore 6, 0, 0, 0)], 100),
  (100, [(100, .iload 6, 0, 0, 0), (102, .bipush 32, 0, 0, 0), (104, .if_icmp .ge 26, 0, 0, 0), (107, .aload_n 0, 0, 0, 0), (108, .aload_n 0, 0, 0, 0), (109, .getfield 46, 19, 130, 0), (112, .bipush 32, 0, 0, 0), (114, .iload 5, 0, 0, 0), (116, .imul, 0, 0, 0), (117, .iload 6, 0, 0, 0), (119, .iadd, 0, 0, 0), (120, .iaload, 0, 0, 0), (121, .invokevirtual 228, 19, 1793, 0), (124, .iinc 6 1, 0, 0, 0), (127, .goto (-27), 0, 0, 0)], 130),
  (130, [(130, .aload_n 0, 0, 0, 0), (131, .invokevirtual 202, 19, 768, 0), (134, .iload 4, 0, 0, 0), (136, .iconst 2, 0, 0, 0), (137, .idiv, 0, 0, 0), (138, .istore 4, 0, 0, 0), (140, .goto (-82), 0, 0, 0)], 143),
  (143, [(143, .aload_n 0, 0, 0, 0), (144, .getfield 215, 19, 248, 0), (147, .ireturn, 0, 0, 0)], 148)]
def xk19_25 : XB := []
def xk19_26 : XB := []
def xk19_27 : XB := [(0, [(0, .aload_n 0, 0, 0, 0), (1, .aload_n 0, 0, 0, 0), (2, .iload_n 1, 0, 0, 0), (3, .invokevirtual 175, 19, 1153, 0), (6, .ifCond .eq 17, 0, 0, 0), (9, .iload_n 2, 0, 0, 0), (10, .ifCond .lt 13, 0, 0, 0), (13, .iload_n 2, 0, 0, 0), (14, .bipush 32, 0, 0, 0), (16, .if_icmp .ge 7, 0, 0, 0), (19, .iconst 0, 0, 0, 0), (20, .goto 4, 0, 0, 0)], 23),
  (23, [(23, .iconst 1, 0, 0, 0)], 24),
  (24, [(24, .putfield 146, 19, 0, 0), (27, .aload_n 0, 0, 0, 0), (28, .getfield 146, 19, 0, 0), (31, .ifCond .ne 17, 0, 0, 0), (34, .aload_n 0, 0, 0, 0), (35, .getfield 43, 19, 114, 0), (38, .bipush 32, 0, 0, 0), (40, .iload_n 1, 0, 0, 0), (41, .imul, 0, 0, 0), (42, .iload_n 2, 0, 0, 0), (43, .iadd, 0, 0, 0), (44, .iaload, 0, 0, 0), (45, .goto 4, 0, 0, 0)], 48),
  (48, [(48, .iconst 0, 0, 0, 0)], 49),
  (49, [(49, .ireturn, 0, 0, 0)], 50)]
def xk19_28 : XB := []
def xk19_29 : XB := []
def xk19_30 : XB := []
def xk19_31 : XB := [(0, [(0, .aload_n 0, 0, 0, 0), (1, .iload_n 1, 0, 0, 0), (2, .lload_n 2, 0, 0, 0), (3, .invokevirtual 142, 19, 2050, 0), (6, .aload_n 0, 0, 0, 0), (7, .iload_n 1, 0, 0, 0), (8, .iconst 2, 0, 0, 0), (9, .iadd, 0, 0, 0), (10, .lload 4, 0, 0, 0), (12, .invokevirtual 142, 19, 2050, 0), (15, .aload_n 0, 0, 0, 0), (16, .iload_n 1, 0, 0, 0), (17, .iconst 4, 0, 0, 0), (18, .iadd, 0, 0, 0), (19, .lload 6, 0, 0, 0), (21, .invokevirtual 142, 19, 2050, 0), (24, .aload_n 0, 0, 0, 0), (25, .iload_n 1, 0, 0, 0), (26, .bipush 6, 0, 0, 0), (28, .iadd, 0, 0, 0), (29, .lload 8, 0, 0, 0), (31, .invokevirtual 142, 19, 2050, 0), (34, .return_, 0, 0, 0)], 35)]
def xk19_32 : XB := [(0, [(0, .aload_n 0, 0, 0, 0), (1, .getfield 7, 19, 10, 0), (4, .iload_n 1, 0, 0, 0), (5, .lload_n 2, 0, 0, 0), (6, .bipush 32, 0, 0, 0), (8, .lshr, 0, 0, 0), (9, .l2i, 0, 0, 0), (10, .iastore, 0, 0, 0), (11, .aload_n 0, 0, 0, 0), (12, .getfield 7, 19, 10, 0), (15, .iload_n 1, 0, 0, 0), (16, .iconst 1, 0, 0, 0), (17, .iadd, 0, 0, 0), (18, .lload_n 2, 0, 0, 0), (19, .l2i, 0, 0, 0), (20, .iastore, 0, 0, 0), (21, .return_, 0, 0, 0)], 22)]
def xk19_33 : XB := [(0, [(0, .aload_n 0, 0, 0, 0), (1, .getfield 146, 19, 0, 0), (4, .ireturn, 0, 0, 0)], 5)]
def xk19_34 : XB := []
def xk19_35 : XB := [(0, [(0, .aload_n 0, 0, 0, 0), (1, .aload_n 0, 0, 0, 0), (2, .iload_n 1, 0, 0, 0), (3, .invokevirtual 175, 19, 1153, 0), (6, .ifCond .eq 7, 0, 0, 0), (9, .iconst 0, 0, 0, 0), (10, .goto 4, 0, 0, 0)], 13),
  (13, [(13, .iconst 1, 0, 0, 0)], 14),
  (14, [(14, .putfield 146, 19, 0, 0), (17, .aload_n 0, 0, 0, 0), (18, .getfield 146, 19, 0, 0), (21, .ifCond .eq 5, 0, 0, 0), (24, .iconst 0, 0, 0, 0), (25, .ireturn, 0, 0, 0)], 26),
  (26, [(26, .aload_n 0, 0, 0, 0), (27, .getfield 55, 19, 162, 0), (30, .iload_n 1, 0, 0, 0), (31, .baload, 0, 0, 0), (32, .ifCond .eq 5, 0, 0, 0), (35, .iconst (-1), 0, 0, 0), (36, .ireturn, 0, 0, 0)], 37),
  (37, [(37, .aload_n 0, 0, 0, 0), (38, .getfield 55, 19, 162, 0), (41, .iload_n 1, 0, 0, 0), (42, .iconst 1, 0, 0, 0), (43, .bastore, 0, 0, 0), (44, .aload_n 0, 0, 0, 0), (45, .dup, 0, 0, 0), (46, .getfield 248, 19, 168, 0), (49, .iconst 1, 0, 0, 0), (50, .iadd, 0, 0, 0), (51, .putfield 248, 19, 168, 0), (54, .aload_n 0, 0, 0, 0), (55, .iload_n 1, 0, 0, 0), (56, .iconst 2, 0, 0, 0), (57, .iconst (-1), 0, 0, 0), (58, .iconst (-1), 0, 0, 0), (59, .invokevirtual 241, 19, 1412, 0), (62, .aload_n 0, 0, 0, 0), (63, .getfield 248, 19, 168, 0), (66, .ireturn, 0, 0, 0)], 67)]
def xk19 : List XB := [xk19_0, xk19_1, xk19_2, xk19_3, xk19_4, xk19_5, xk19_6, xk19_7, xk19_8, xk19_9, xk19_10, xk19_11, xk19_12, xk19_13, xk19_14, xk19_15, xk19_16, xk19_17, xk19_18, xk19_19, xk19_20, xk19_21, xk19_22, xk19_23, xk19_24, xk19_25, xk19_26, xk19_27, xk19_28, xk19_29, xk19_30, xk19_31, xk19_32, xk19_33, xk19_34, xk19_35]
theorem xr19_0 : xRowOk (19, xmn 19 0, prog_22_method_35_code, 4, (some .int), xk19_0) = true := by decide +kernel
theorem xr19_1 : xRowOk (19, xmn 19 1, prog_22_method_23_code, 2, none, xk19_1) = true := by decide +kernel
theorem xr19_2 : xRowOk (19, xmn 19 2, prog_22_method_7_code, 11, none, xk19_2) = true := by decide +kernel
theorem xr19_3 : xRowOk (19, xmn 19 3, prog_22_method_15_code, 4, (some .boolean), xk19_3) = true := by decide +kernel
theorem xr19_4 : xRowOk (19, xmn 19 4, prog_22_method_28_code, 2, (some .boolean), xk19_4) = true := by decide +kernel
theorem xr19_5 : xRowOk (19, xmn 19 5, prog_22_method_32_code, 1, (some .int), xk19_5) = true := by decide +kernel
theorem xr19_6 : xRowOk (19, xmn 19 6, prog_22_method_29_code, 1, none, xk19_6) = true := by decide +kernel
theorem xr19_7 : xRowOk (19, xmn 19 7, prog_22_method_18_code, 7, (some .int), xk19_7) = true := by decide +kernel
theorem xr19_8 : xRowOk (19, xmn 19 8, prog_22_method_8_code, 3, none, xk19_8) = true := by decide +kernel
theorem xr19_9 : xRowOk (19, xmn 19 9, prog_22_method_17_code, 3, none, xk19_9) = true := by decide +kernel
theorem xr19_10 : xRowOk (19, xmn 19 10, prog_22_method_14_code, 2, (some .int), xk19_10) = true := by decide +kernel
theorem xr19_11 : xRowOk (19, xmn 19 11, prog_22_method_13_code, 4, (some .int), xk19_11) = true := by decide +kernel
theorem xr19_12 : xRowOk (19, xmn 19 12, prog_22_method_21_code, 3, none, xk19_12) = true := by decide +kernel
theorem xr19_13 : xRowOk (19, xmn 19 13, prog_22_method_31_code, 5, (some .boolean), xk19_13) = true := by decide +kernel
theorem xr19_14 : xRowOk (19, xmn 19 14, prog_22_method_1_code, 1, none, xk19_14) = true := by decide +kernel
theorem xr19_15 : xRowOk (19, xmn 19 15, prog_22_method_34_code, 4, (some .boolean), xk19_15) = true := by decide +kernel
theorem xr19_16 : xRowOk (19, xmn 19 16, prog_22_method_12_code, 1, (some .boolean), xk19_16) = true := by decide +kernel
theorem xr19_17 : xRowOk (19, xmn 19 17, prog_22_method_11_code, 3, (some .boolean), xk19_17) = true := by decide +kernel
theorem xr19_18 : xRowOk (19, xmn 19 18, prog_22_method_10_code, 2, (some .boolean), xk19_18) = true := by decide +kernel
theorem xr19_19 : xRowOk (19, xmn 19 19, prog_22_method_20_code, 3, none, xk19_19) = true := by decide +kernel
theorem xr19_20 : xRowOk (19, xmn 19 20, prog_22_method_19_code, 1, (some .int), xk19_20) = true := by decide +kernel
theorem xr19_21 : xRowOk (19, xmn 19 21, prog_22_method_16_code, 5, (some .int), xk19_21) = true := by decide +kernel
theorem xr19_22 : xRowOk (19, xmn 19 22, prog_22_method_33_code, 5, none, xk19_22) = true := by decide +kernel
theorem xr19_23 : xRowOk (19, xmn 19 23, prog_22_method_30_code, 3, (some .boolean), xk19_23) = true := by decide +kernel
theorem xr19_24 : xRowOk (19, xmn 19 24, prog_22_method_27_code, 7, (some .int), xk19_24) = true := by decide +kernel
theorem xr19_25 : xRowOk (19, xmn 19 25, prog_22_method_5_code, 2, none, xk19_25) = true := by decide +kernel
theorem xr19_26 : xRowOk (19, xmn 19 26, prog_22_method_9_code, 4, none, xk19_26) = true := by decide +kernel
theorem xr19_27 : xRowOk (19, xmn 19 27, prog_22_method_25_code, 3, (some .int), xk19_27) = true := by decide +kernel
theorem xr19_28 : xRowOk (19, xmn 19 28, prog_22_method_22_code, 2, none, xk19_28) = true := by decide +kernel
theorem xr19_29 : xRowOk (19, xmn 19 29, prog_22_method_37_code, 2, (some .int), xk19_29) = true := by decide +kernel
theorem xr19_30 : xRowOk (19, xmn 19 30, prog_22_method_24_code, 5, (some .int), xk19_30) = true := by decide +kernel
theorem xr19_31 : xRowOk (19, xmn 19 31, prog_22_method_2_code, 10, none, xk19_31) = true := by decide +kernel
theorem xr19_32 : xRowOk (19, xmn 19 32, prog_22_method_3_code, 4, none, xk19_32) = true := by decide +kernel
theorem xr19_33 : xRowOk (19, xmn 19 33, prog_22_method_4_code, 1, (some .int), xk19_33) = true := by decide +kernel
theorem xr19_34 : xRowOk (19, xmn 19 34, prog_22_method_6_code, 2, (some .int), xk19_34) = true := by decide +kernel
theorem xr19_35 : xRowOk (19, xmn 19 35, prog_22_method_36_code, 2, (some .int), xk19_35) = true := by decide +kernel
