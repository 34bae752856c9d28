/-! the code of class 20, in stretches -/
def xk20_0 : XB := [(0, [(0, .aload_n 0, 0, 0, 0), (1, .iload_n 1, 0, 0, 0), (2, .invokevirtual 155, 20, 1601, 0), (5, .istore 4, 0, 0, 0), (7, .iload 4, 0, 0, 0), (9, .iload_n 1, 0, 0, 0), (10, .if_icmp .ne 10, 0, 0, 0), (13, .aload_n 0, 0, 0, 0), (14, .iload_n 1, 0, 0, 0), (15, .invokevirtual 98, 20, 577, 0), (18, .iconst (-1), 0, 0, 0), (19, .ireturn, 0, 0, 0)], 20),
  (20, [(20, .aload_n 0, 0, 0, 0), (21, .iload_n 1, 0, 0, 0), (22, .iload 4, 0, 0, 0), (24, .invokevirtual 158, 20, 1346, 0), (27, .istore 5, 0, 0, 0), (29, .iload_n 2, 0, 0, 0), (30, .iconst (-1), 0, 0, 0), (31, .if_icmp .ne 16, 0, 0, 0), (34, .iload 5, 0, 0, 0), (36, .ifCond .ne 7, 0, 0, 0), (39, .iconst 1, 0, 0, 0), (40, .goto 13, 0, 0, 0)], 43),
  (43, [(43, .iconst 0, 0, 0, 0), (44, .goto 9, 0, 0, 0)], 47),
  (47, [(47, .iload 5, 0, 0, 0), (49, .iload_n 2, 0, 0, 0), (50, .invokestatic 161, 20, 258, 0)], 53),
  (53, [(53, .istore 6, 0, 0, 0), (55, .iload 6, 0, 0, 0), (57, .ifCond .eq 13, 0, 0, 0), (60, .aload_n 0, 0, 0, 0), (61, .getfield 122, 20, 136, 0), (64, .sipush 200, 0, 0, 0), (67, .if_icmp .ne 10, 0, 0, 0)], 70),
  (70, [(70, .aload_n 0, 0, 0, 0), (71, .iload_n 1, 0, 0, 0), (72, .invokevirtual 98, 20, 577, 0), (75, .iconst (-1), 0, 0, 0), (76, .ireturn, 0, 0, 0)], 77),
  (77, [(77, .aload_n 0, 0, 0, 0), (78, .iconst 0, 0, 0, 0), (79, .putfield 141, 20, 160, 0), (82, .aload_n 0, 0, 0, 0), (83, .iconst 0, 0, 0, 0), (84, .putfield 125, 20, 168, 0), (87, .aload_n 0, 0, 0, 0), (88, .getfield 119, 20, 123, 0), (91, .ifCond .eq 23, 0, 0, 0), (94, .aload_n 0, 0, 0, 0), (95, .aload_n 0, 0, 0, 0), (96, .getfield 122, 20, 136, 0), (99, .iload 5, 0, 0, 0), (101, .invokevirtual 165, 20, 66, 0), (104, .aload_n 0, 0, 0, 0), (105, .getfield 16, 20, 50, 0), (108, .aload_n 0, 0, 0, 0), (109, .getfield 122, 20, 136, 0), (112, .iload_n 3, 0, 0, 0), (113, .iastore, 0, 0, 0)], 114),
  (114, [(114, .iload 5, 0, 0, 0), (116, .ireturn, 0, 0, 0)], 117)]
def xk20_1 : XB := []
def xk20_2 : XB := [(0, [(0, .iload_n 1, 0, 0, 0), (1, .istore_n 2, 0, 0, 0)], 2),
  (2, [(2, .aload_n 0, 0, 0, 0), (3, .iload_n 2, 0, 0, 0), (4, .invokevirtual 87, 20, 193, 0), (7, .invokestatic 91, 20, 961, 0), (10, .ifCond .eq 9, 0, 0, 0), (13, .iinc 2 1, 0, 0, 0), (16, .goto (-14), 0, 0, 0)], 19),
  (19, [(19, .iload_n 2, 0, 0, 0), (20, .ireturn, 0, 0, 0)], 21)]
def xk20_3 : XB := [(0, [(0, .iload_n 1, 0, 0, 0), (1, .aload_n 0, 0, 0, 0), (2, .getfield 59, 20, 24, 0), (5, .if_icmp .ge 12, 0, 0, 0), (8, .aload_n 0, 0, 0, 0), (9, .getfield 7, 20, 18, 0), (12, .iload_n 1, 0, 0, 0), (13, .iaload, 0, 0, 0), (14, .goto 4, 0, 0, 0)], 17),
  (17, [(17, .iconst (-1), 0, 0, 0)], 18),
  (18, [(18, .ireturn, 0, 0, 0)], 19)]
def xk20_4 : XB := []
def xk20_5 : XB := []
def xk20_6 : XB := [(0, [(0, .aload_n 0, 0, 0, 0), (1, .iconst 0, 0, 0, 0), (2, .putfield 52, 20, 0, 0), (5, .aload_n 0, 0, 0, 0), (6, .iconst 0, 0, 0, 0), (7, .putfield 59, 20, 24, 0), (10, .return_, 0, 0, 0)], 11)]
def xk20_7 : XB := []
def xk20_8 : XB := [(0, [(0, .iload_n 1, 0, 0, 0), (1, .istore_n 2, 0, 0, 0)], 2),
  (2, [(2, .aload_n 0, 0, 0, 0), (3, .iload_n 2, 0, 0, 0), (4, .invokevirtual 87, 20, 193, 0), (7, .bipush 46, 0, 0, 0), (9, .if_icmp .ne 9, 0, 0, 0), (12, .iinc 2 1, 0, 0, 0), (15, .goto (-13), 0, 0, 0)], 18),
  (18, [(18, .iload_n 2, 0, 0, 0), (19, .iload_n 1, 0, 0, 0), (20, .isub, 0, 0, 0), (21, .ireturn, 0, 0, 0)], 22)]
def xk20_9 : XB := [(0, [(0, .aload_n 0, 0, 0, 0), (1, .getfield 84, 20, 144, 0), (4, .iconst (-1), 0, 0, 0), (5, .if_icmp .ne 8, 0, 0, 0), (8, .aload_n 0, 0, 0, 0), (9, .iload_n 1, 0, 0, 0), (10, .putfield 84, 20, 144, 0)], 13),
  (13, [(13, .return_, 0, 0, 0)], 14)]
def xk20_10 : XB := []
def xk20_11 : XB := []
def xk20_12 : XB := []
def xk20_13 : XB := [(0, [(0, .aload_n 0, 0, 0, 0), (1, .iload_n 1, 0, 0, 0), (2, .putfield 119, 20, 123, 0), (5, .aload_n 0, 0, 0, 0), (6, .iconst (-1), 0, 0, 0), (7, .putfield 84, 20, 144, 0), (10, .aload_n 0, 0, 0, 0), (11, .iconst 0, 0, 0, 0), (12, .putfield 122, 20, 136, 0), (15, .aload_n 0, 0, 0, 0), (16, .iconst 0, 0, 0, 0), (17, .putfield 169, 20, 176, 0), (20, .aload_n 0, 0, 0, 0), (21, .getfield 56, 20, 8, 0), (24, .ifCond .ne 10, 0, 0, 0), (27, .aload_n 0, 0, 0, 0), (28, .invokevirtual 231, 20, 2240, 0), (31, .goto 7, 0, 0, 0)], 34),
  (34, [(34, .aload_n 0, 0, 0, 0), (35, .invokevirtual 234, 20, 2176, 0)], 38),
  (38, [(38, .return_, 0, 0, 0)], 39)]
def xk20_14 : XB := [(0, [(0, .aload_n 0, 0, 0, 0), (1, .invokespecial 1, 999, 0, 0), (4, .aload_n 0, 0, 0, 0), (5, .sipush 4000, 0, 0, 0), (8, .newarray .int, 100, 0, 0), (10, .putfield 7, 20, 18, 0), (13, .aload_n 0, 0, 0, 0), (14, .sipush 200, 0, 0, 0), (17, .newarray .int, 100, 0, 0), (19, .putfield 13, 20, 42, 0), (22, .aload_n 0, 0, 0, 0), (23, .sipush 200, 0, 0, 0), (26, .newarray .int, 100, 0, 0), (28, .putfield 16, 20, 50, 0), (31, .aload_n 0, 0, 0, 0), (32, .sipush 1000, 0, 0, 0), (35, .newarray .long, 101, 0, 0), (37, .putfield 19, 20, 58, 0), (40, .aload_n 0, 0, 0, 0), (41, .sipush 400, 0, 0, 0), (44, .newarray .int, 100, 0, 0), (46, .putfield 23, 20, 66, 0), (49, .aload_n 0, 0, 0, 0), (50, .sipush 16000, 0, 0, 0), (53, .newarray .int, 100, 0, 0), (55, .putfield 26, 20, 74, 0), (58, .aload_n 0, 0, 0, 0), (59, .sipush 200, 0, 0, 0), (62, .newarray .int, 100, 0, 0), (64, .putfield 29, 20, 82, 0), (67, .aload_n 0, 0, 0, 0), (68, .sipush 200, 0, 0, 0), (71, .newarray .int, 100, 0, 0), (73, .putfield 32, 20, 90, 0), (76, .aload_n 0, 0, 0, 0), (77, .sipush 2000, 0, 0, 0), (80, .newarray .int, 100, 0, 0), (82, .putfield 35, 20, 98, 0), (85, .aload_n 0, 0, 0, 0), (86, .sipush 201, 0, 0, 0), (89, .newarray .int, 100, 0, 0), (91, .putfield 38, 20, 186, 0), (94, .aload_n 0, 0, 0, 0), (95, .sipush 201, 0, 0, 0), (98, .newarray .int, 100, 0, 0), (100, .putfield 41, 20, 194, 0), (103, .aload_n 0, 0, 0, 0), (104, .ldc 44, 0, 0, 110000), (106, .newarray .int, 100, 0, 0), (108, .putfield 45, 20, 202, 0), (111, .aload_n 0, 0, 0, 0), (112, .iconst 1, 0, 0, 0), (113, .putfield 48, 20, 219, 0), (116, .aload_n 0, 0, 0, 0), (117, .iconst 0, 0, 0, 0), (118, .putfield 52, 20, 0, 0), (121, .aload_n 0, 0, 0, 0), (122, .iload_n 1, 0, 0, 0), (123, .iconst 1, 0, 0, 0), (124, .if_icmp .ge 7, 0, 0, 0), (127, .iconst 0, 0, 0, 0), (128, .goto 4, 0, 0, 0)], 131),
  (131, [(131, .iconst 1, 0, 0, 0)], 132),
  (132, [(132, .putfield 56, 20, 8, 0), (135, .return_, 0, 0, 0)], 136)]
def xk20_15 : XB := [(0, [(0, .iload_n 0, 0, 0, 0), (1, .bipush 32, 0, 0, 0), (3, .if_icmp .eq 9, 0, 0, 0), (6, .iload_n 0, 0, 0, 0), (7, .bipush 10, 0, 0, 0), (9, .if_icmp .ne 7, 0, 0, 0)], 12),
  (12, [(12, .iconst 1, 0, 0, 0), (13, .goto 4, 0, 0, 0)], 16),
  (16, [(16, .iconst 0, 0, 0, 0)], 17),
  (17, [(17, .ireturn, 0, 0, 0)], 18)]
def xk20_16 : XB := []
def xk20_17 : XB := []
def xk20_18 : XB := [(0, [(0, .iload_n 0, 0, 0, 0), (1, .bipush 97, 0, 0, 0), (3, .if_icmp .lt 13, 0, 0, 0), (6, .iload_n 0, 0, 0, 0), (7, .bipush 122, 0, 0, 0), (9, .if_icmp .gt 7, 0, 0, 0), (12, .iconst 1, 0, 0, 0), (13, .goto 4, 0, 0, 0)], 16),
  (16, [(16, .iconst 0, 0, 0, 0)], 17),
  (17, [(17, .ireturn, 0, 0, 0)], 18)]
def xk20_19 : XB := []
def xk20_20 : XB := []
def xk20_21 : XB := []
def xk20_22 : XB := []
def xk20_23 : XB := []
def xk20_24 : XB := []
def xk20_25 : XB := [(0, [(0, .iload_n 1, 0, 0, 0), (1, .istore_n 2, 0, 0, 0)], 2),
  (2, [(2, .aload_n 0, 0, 0, 0), (3, .iload_n 2, 0, 0, 0), (4, .invokevirtual 87, 20, 193, 0), (7, .invokestatic 146, 20, 1153, 0), (10, .ifCond .eq 9, 0, 0, 0), (13, .iinc 2 1, 0, 0, 0), (16, .goto (-14), 0, 0, 0)], 19),
  (19, [(19, .iload_n 2, 0, 0, 0), (20, .ireturn, 0, 0, 0)], 21)]
def xk20_26 : XB := []
def xk20_27 : XB := []
def xk20_28 : XB := []
def xk20_29 : XB := []
def xk20_30 : XB := []
def xk20_31 : XB := []
def xk20_32 : XB := [(0, [(0, .aload_n 0, 0, 0, 0), (1, .iconst 0, 0, 0, 0), (2, .putfield 52, 20, 0, 0), (5, .aload_n 0, 0, 0, 0), (6, .iconst 0, 0, 0, 0), (7, .invokevirtual 237, 20, 833, 0), (10, .aload_n 0, 0, 0, 0), (11, .getfield 84, 20, 144, 0), (14, .iconst (-1), 0, 0, 0), (15, .if_icmp .eq 10, 0, 0, 0), (18, .iconst (-1), 0, 0, 0), (19, .aload_n 0, 0, 0, 0), (20, .getfield 84, 20, 144, 0), (23, .isub, 0, 0, 0), (24, .ireturn, 0, 0, 0)], 25),
  (25, [(25, .aload_n 0, 0, 0, 0), (26, .iconst 1, 0, 0, 0), (27, .invokevirtual 237, 20, 833, 0), (30, .aload_n 0, 0, 0, 0), (31, .aload_n 0, 0, 0, 0), (32, .getfield 122, 20, 136, 0), (35, .putfield 241, 20, 32, 0), (38, .aload_n 0, 0, 0, 0), (39, .aload_n 0, 0, 0, 0), (40, .getfield 169, 20, 176, 0), (43, .putfield 244, 20, 104, 0), (46, .aload_n 0, 0, 0, 0), (47, .aload_n 0, 0, 0, 0), (48, .getfield 178, 20, 128, 0), (51, .putfield 247, 20, 112, 0), (54, .aload_n 0, 0, 0, 0), (55, .iconst 1, 0, 0, 0), (56, .putfield 48, 20, 219, 0), (59, .aload_n 0, 0, 0, 0), (60, .getfield 241, 20, 32, 0), (63, .ireturn, 0, 0, 0)], 64)]
def xk20_33 : XB := [(0, [(0, .iload_n 1, 0, 0, 0), (1, .iload_n 2, 0, 0, 0), (2, .iadd, 0, 0, 0), (3, .istore_n 3, 0, 0, 0), (4, .aload_n 0, 0, 0, 0), (5, .iload_n 3, 0, 0, 0), (6, .iload_n 2, 0, 0, 0), (7, .ifCond .ne 7, 0, 0, 0), (10, .iconst (-1), 0, 0, 0), (11, .goto 11, 0, 0, 0)], 14),
  (14, [(14, .aload_n 0, 0, 0, 0), (15, .getfield 41, 20, 194, 0), (18, .iload_n 2, 0, 0, 0), (19, .iconst 1, 0, 0, 0), (20, .isub, 0, 0, 0), (21, .iaload, 0, 0, 0)], 22),
  (22, [(22, .iload_n 2, 0, 0, 0), (23, .ifCond .ne 7, 0, 0, 0), (26, .iconst (-1), 0, 0, 0), (27, .goto 11, 0, 0, 0)], 30),
  (30, [(30, .aload_n 0, 0, 0, 0), (31, .getfield 38, 20, 186, 0), (34, .iload_n 2, 0, 0, 0), (35, .iconst 1, 0, 0, 0), (36, .isub, 0, 0, 0), (37, .iaload, 0, 0, 0)], 38),
  (38, [(38, .invokevirtual 197, 20, 3, 0), (41, .istore 4, 0, 0, 0), (43, .iload 4, 0, 0, 0), (45, .iconst (-1), 0, 0, 0), (46, .if_icmp .ne 5, 0, 0, 0), (49, .iload_n 1, 0, 0, 0), (50, .ireturn, 0, 0, 0)], 51),
  (51, [(51, .aload_n 0, 0, 0, 0), (52, .iload_n 3, 0, 0, 0), (53, .invokevirtual 155, 20, 1601, 0), (56, .istore 5, 0, 0, 0), (58, .iload 4, 0, 0, 0), (60, .bipush 9, 0, 0, 0), (62, .if_icmp .ne 10, 0, 0, 0), (65, .aload_n 0, 0, 0, 0), (66, .iload_n 3, 0, 0, 0), (67, .iload_n 2, 0, 0, 0), (68, .invokevirtual 216, 20, 2434, 0), (71, .ireturn, 0, 0, 0)], 72),
  (72, [(72, .iload 4, 0, 0, 0), (74, .ifCond .ne 13, 0, 0, 0), (77, .aload_n 0, 0, 0, 0), (78, .iload 5, 0, 0, 0), (80, .iconst 0, 0, 0, 0), (81, .invokevirtual 203, 20, 2562, 0), (84, .goto 12, 0, 0, 0)], 87),
  (87, [(87, .aload_n 0, 0, 0, 0), (88, .iload 4, 0, 0, 0), (90, .iload 5, 0, 0, 0), (92, .iconst 0, 0, 0, 0), (93, .invokevirtual 206, 20, 3459, 0)], 96),
  (96, [(96, .istore 5, 0, 0, 0), (98, .aload_n 0, 0, 0, 0), (99, .iload 5, 0, 0, 0), (101, .invokevirtual 87, 20, 193, 0), (104, .bipush 10, 0, 0, 0), (106, .if_icmp .eq 9, 0, 0, 0), (109, .aload_n 0, 0, 0, 0), (110, .iload 5, 0, 0, 0), (112, .invokevirtual 98, 20, 577, 0)], 115),
  (115, [(115, .aload_n 0, 0, 0, 0), (116, .getfield 38, 20, 186, 0), (119, .iload_n 2, 0, 0, 0), (120, .aload_n 0, 0, 0, 0), (121, .getfield 122, 20, 136, 0), (124, .iastore, 0, 0, 0), (125, .aload_n 0, 0, 0, 0), (126, .getfield 41, 20, 194, 0), (129, .iload_n 2, 0, 0, 0), (130, .iload 4, 0, 0, 0), (132, .iastore, 0, 0, 0), (133, .aload_n 0, 0, 0, 0), (134, .iload_n 2, 0, 0, 0), (135, .putfield 219, 20, 240, 0), (138, .aload_n 0, 0, 0, 0), (139, .dup, 0, 0, 0), (140, .getfield 122, 20, 136, 0), (143, .iconst 1, 0, 0, 0), (144, .iadd, 0, 0, 0), (145, .putfield 122, 20, 136, 0), (148, .iload 5, 0, 0, 0), (150, .iconst 1, 0, 0, 0), (151, .iadd, 0, 0, 0), (152, .ireturn, 0, 0, 0)], 153)]
def xk20_34 : XB := [(0, [(0, .iconst 0, 0, 0, 0), (1, .istore_n 1, 0, 0, 0), (2, .aload_n 0, 0, 0, 0), (3, .iconst (-1), 0, 0, 0), (4, .putfield 219, 20, 240, 0)], 7),
  (7, [(7, .aload_n 0, 0, 0, 0), (8, .getfield 84, 20, 144, 0), (11, .iconst (-1), 0, 0, 0), (12, .if_icmp .ne 72, 0, 0, 0), (15, .iload_n 1, 0, 0, 0), (16, .aload_n 0, 0, 0, 0), (17, .getfield 59, 20, 24, 0), (20, .if_icmp .lt 7, 0, 0, 0), (23, .iload_n 1, 0, 0, 0), (24, .ifCond .ne 60, 0, 0, 0)], 27),
  (27, [(27, .aload_n 0, 0, 0, 0), (28, .iload_n 1, 0, 0, 0), (29, .invokevirtual 225, 20, 513, 0), (32, .istore_n 2, 0, 0, 0), (33, .iload_n 2, 0, 0, 0), (34, .aload_n 0, 0, 0, 0), (35, .getfield 219, 20, 240, 0), (38, .iconst 1, 0, 0, 0), (39, .iadd, 0, 0, 0), (40, .if_icmp .le 18, 0, 0, 0), (43, .aload_n 0, 0, 0, 0), (44, .iload_n 1, 0, 0, 0), (45, .aload_n 0, 0, 0, 0), (46, .getfield 219, 20, 240, 0), (49, .iadd, 0, 0, 0), (50, .iconst 1, 0, 0, 0), (51, .iadd, 0, 0, 0), (52, .invokevirtual 98, 20, 577, 0), (55, .goto 26, 0, 0, 0)], 58),
  (58, [(58, .iload_n 2, 0, 0, 0), (59, .ifCond .ne 15, 0, 0, 0), (62, .iload_n 1, 0, 0, 0), (63, .ifCond .le 11, 0, 0, 0), (66, .aload_n 0, 0, 0, 0), (67, .iload_n 1, 0, 0, 0), (68, .invokevirtual 98, 20, 577, 0), (71, .goto 10, 0, 0, 0)], 74),
  (74, [(74, .aload_n 0, 0, 0, 0), (75, .iload_n 1, 0, 0, 0), (76, .iload_n 2, 0, 0, 0), (77, .invokevirtual 228, 20, 2114, 0), (80, .istore_n 1, 0, 0, 0)], 81),
  (81, [(81, .goto (-74), 0, 0, 0)], 84),
  (84, [(84, .return_, 0, 0, 0)], 85)]
def xk20_35 : XB := [(0, [(0, .aload_n 0, 0, 0, 0), (1, .iconst 0, 0, 0, 0), (2, .invokevirtual 192, 20, 129, 0), (5, .istore_n 1, 0, 0, 0), (6, .aload_n 0, 0, 0, 0), (7, .iconst 0, 0, 0, 0), (8, .putfield 210, 20, 232, 0), (11, .aload_n 0, 0, 0, 0), (12, .iload_n 1, 0, 0, 0), (13, .invokevirtual 87, 20, 193, 0), (16, .bipush 40, 0, 0, 0), (18, .if_icmp .eq 8, 0, 0, 0), (21, .aload_n 0, 0, 0, 0), (22, .iload_n 1, 0, 0, 0), (23, .invokevirtual 98, 20, 577, 0)], 26),
  (26, [(26, .aload_n 0, 0, 0, 0), (27, .getfield 84, 20, 144, 0), (30, .iconst (-1), 0, 0, 0), (31, .if_icmp .ne 10, 0, 0, 0), (34, .aload_n 0, 0, 0, 0), (35, .iload_n 1, 0, 0, 0), (36, .iconst 0, 0, 0, 0), (37, .invokevirtual 213, 20, 1794, 0), (40, .istore_n 1, 0, 0, 0)], 41),
  (41, [(41, .aload_n 0, 0, 0, 0), (42, .getfield 84, 20, 144, 0), (45, .iconst (-1), 0, 0, 0), (46, .if_icmp .ne 73, 0, 0, 0), (49, .aload_n 0, 0, 0, 0), (50, .getfield 210, 20, 232, 0), (53, .ifCond .le 66, 0, 0, 0), (56, .aload_n 0, 0, 0, 0), (57, .iload_n 1, 0, 0, 0), (58, .invokevirtual 192, 20, 129, 0), (61, .istore_n 1, 0, 0, 0), (62, .aload_n 0, 0, 0, 0), (63, .iload_n 1, 0, 0, 0), (64, .invokevirtual 87, 20, 193, 0), (67, .bipush 40, 0, 0, 0), (69, .if_icmp .ne 16, 0, 0, 0), (72, .aload_n 0, 0, 0, 0), (73, .iload_n 1, 0, 0, 0), (74, .aload_n 0, 0, 0, 0), (75, .getfield 210, 20, 232, 0), (78, .invokevirtual 213, 20, 1794, 0), (81, .istore_n 1, 0, 0, 0), (82, .goto (-41), 0, 0, 0)], 85),
  (85, [(85, .aload_n 0, 0, 0, 0), (86, .iload_n 1, 0, 0, 0), (87, .invokevirtual 87, 20, 193, 0), (90, .bipush 41, 0, 0, 0), (92, .if_icmp .ne 19, 0, 0, 0), (95, .aload_n 0, 0, 0, 0), (96, .dup, 0, 0, 0), (97, .getfield 210, 20, 232, 0), (100, .iconst 1, 0, 0, 0), (101, .isub, 0, 0, 0), (102, .putfield 210, 20, 232, 0), (105, .iinc 1 1, 0, 0, 0), (108, .goto (-67), 0, 0, 0)], 111),
  (111, [(111, .aload_n 0, 0, 0, 0), (112, .iload_n 1, 0, 0, 0), (113, .invokevirtual 98, 20, 577, 0), (116, .goto (-75), 0, 0, 0)], 119),
  (119, [(119, .aload_n 0, 0, 0, 0), (120, .iload_n 1, 0, 0, 0), (121, .invokevirtual 192, 20, 129, 0), (124, .istore_n 1, 0, 0, 0), (125, .iload_n 1, 0, 0, 0), (126, .aload_n 0, 0, 0, 0), (127, .getfield 59, 20, 24, 0), (130, .if_icmp .ge 8, 0, 0, 0), (133, .aload_n 0, 0, 0, 0), (134, .iload_n 1, 0, 0, 0), (135, .invokevirtual 98, 20, 577, 0)], 138),
  (138, [(138, .return_, 0, 0, 0)], 139)]
def xk20_36 : XB := []
def xk20_37 : XB := []
def xk20_38 : XB := []
def xk20_39 : XB := []
def xk20_40 : XB := []
def xk20_41 : XB := []
def xk20_42 : XB := []
def xk20_43 : XB := []
def xk20_44 : XB := []
def xk20_45 : XB := []
def xk20_46 : XB := []
def xk20_47 : XB := []
def xk20_48 : XB := []
def xk20_49 : XB := []
def xk20_50 : XB := []
def xk20_51 : XB := []
def xk20_52 : XB := []
def xk20_53 : XB := []
def xk20_54 : XB := []
def xk20_55 : XB := []
def xk20_56 : XB := []
def xk20 : List XB := [xk20_0, xk20_1, xk20_2, xk20_3, xk20_4, xk20_5, xk20_6, xk20_7, xk20_8, xk20_9, xk20_10, xk20_11, xk20_12, xk20_13, xk20_14, xk20_15, xk20_16, xk20_17, xk20_18, xk20_19, xk20_20, xk20_21, xk20_22, xk20_23, xk20_24, xk20_25, xk20_26, xk20_27, xk20_28, xk20_29, xk20_30, xk20_31, xk20_32, xk20_33, xk20_34, xk20_35, xk20_36, xk20_37, xk20_38, xk20_39, xk20_40, xk20_41, xk20_42, xk20_43, xk20_44, xk20_45, xk20_46, xk20_47, xk20_48, xk20_49, xk20_50, xk20_51, xk20_52, xk20_53, xk20_54, xk20_55, xk20_56]
theorem xr20_0 : xRowOk (20, xmn 20 0, prog_23_method_27_code, 7, (some .int), xk20_0) = true := by decide +kernel
theorem xr20_1 : xRowOk (20, xmn 20 1, prog_23_method_24_code, 4, none, xk20_1) = true := by decide +kernel
theorem xr20_2 : xRowOk (20, xmn 20 2, prog_23_method_18_code, 3, (some .int), xk20_2) = true := by decide +kernel
theorem xr20_3 : xRowOk (20, xmn 20 3, prog_23_method_13_code, 2, (some .int), xk20_3) = true := by decide +kernel
theorem xr20_4 : xRowOk (20, xmn 20 4, prog_23_method_9_code, 2, (some .boolean), xk20_4) = true := by decide +kernel
theorem xr20_5 : xRowOk (20, xmn 20 5, prog_23_method_61_code, 4, (some .int), xk20_5) = true := by decide +kernel
theorem xr20_6 : xRowOk (20, xmn 20 6, prog_23_method_4_code, 1, none, xk20_6) = true := by decide +kernel
theorem xr20_7 : xRowOk (20, xmn 20 7, prog_23_method_19_code, 4, (some .int), xk20_7) = true := by decide +kernel
theorem xr20_8 : xRowOk (20, xmn 20 8, prog_23_method_37_code, 3, (some .int), xk20_8) = true := by decide +kernel
theorem xr20_9 : xRowOk (20, xmn 20 9, prog_23_method_14_code, 2, none, xk20_9) = true := by decide +kernel
theorem xr20_10 : xRowOk (20, xmn 20 10, prog_23_method_7_code, 2, (some .int), xk20_10) = true := by decide +kernel
theorem xr20_11 : xRowOk (20, xmn 20 11, prog_23_method_12_code, 5, (some .int), xk20_11) = true := by decide +kernel
theorem xr20_12 : xRowOk (20, xmn 20 12, prog_23_method_8_code, 3, (some .int), xk20_12) = true := by decide +kernel
theorem xr20_13 : xRowOk (20, xmn 20 13, prog_23_method_41_code, 2, none, xk20_13) = true := by decide +kernel
theorem xr20_14 : xRowOk (20, xmn 20 14, prog_23_method_1_code, 2, none, xk20_14) = true := by decide +kernel
theorem xr20_15 : xRowOk (20, xmn 20 15, prog_23_method_15_code, 1, (some .boolean), xk20_15) = true := by decide +kernel
theorem xr20_16 : xRowOk (20, xmn 20 16, prog_23_method_16_code, 1, (some .boolean), xk20_16) = true := by decide +kernel
theorem xr20_17 : xRowOk (20, xmn 20 17, prog_23_method_43_code, 2, (some .boolean), xk20_17) = true := by decide +kernel
theorem xr20_18 : xRowOk (20, xmn 20 18, prog_23_method_17_code, 1, (some .boolean), xk20_18) = true := by decide +kernel
theorem xr20_19 : xRowOk (20, xmn 20 19, prog_23_method_28_code, 4, none, xk20_19) = true := by decide +kernel
theorem xr20_20 : xRowOk (20, xmn 20 20, prog_23_method_44_code, 2, (some .int), xk20_20) = true := by decide +kernel
theorem xr20_21 : xRowOk (20, xmn 20 21, prog_23_method_26_code, 6, (some .int), xk20_21) = true := by decide +kernel
theorem xr20_22 : xRowOk (20, xmn 20 22, prog_23_method_10_code, 2, (some .long), xk20_22) = true := by decide +kernel
theorem xr20_23 : xRowOk (20, xmn 20 23, prog_23_method_36_code, 3, (some .int), xk20_23) = true := by decide +kernel
theorem xr20_24 : xRowOk (20, xmn 20 24, prog_23_method_11_code, 2, (some .long), xk20_24) = true := by decide +kernel
theorem xr20_25 : xRowOk (20, xmn 20 25, prog_23_method_25_code, 3, (some .int), xk20_25) = true := by decide +kernel
theorem xr20_26 : xRowOk (20, xmn 20 26, prog_23_method_5_code, 1, (some .long), xk20_26) = true := by decide +kernel
theorem xr20_27 : xRowOk (20, xmn 20 27, prog_23_method_46_code, 3, (some .long), xk20_27) = true := by decide +kernel
theorem xr20_28 : xRowOk (20, xmn 20 28, prog_23_method_34_code, 6, (some .int), xk20_28) = true := by decide +kernel
theorem xr20_29 : xRowOk (20, xmn 20 29, prog_23_method_45_code, 2, (some .int), xk20_29) = true := by decide +kernel
theorem xr20_30 : xRowOk (20, xmn 20 30, prog_23_method_30_code, 6, (some .int), xk20_30) = true := by decide +kernel
theorem xr20_31 : xRowOk (20, xmn 20 31, prog_23_method_29_code, 4, (some .int), xk20_31) = true := by decide +kernel
theorem xr20_32 : xRowOk (20, xmn 20 32, prog_23_method_42_code, 1, (some .int), xk20_32) = true := by decide +kernel
theorem xr20_33 : xRowOk (20, xmn 20 33, prog_23_method_38_code, 6, (some .int), xk20_33) = true := by decide +kernel
theorem xr20_34 : xRowOk (20, xmn 20 34, prog_23_method_40_code, 3, none, xk20_34) = true := by decide +kernel
theorem xr20_35 : xRowOk (20, xmn 20 35, prog_23_method_35_code, 2, none, xk20_35) = true := by decide +kernel
theorem xr20_36 : xRowOk (20, xmn 20 36, prog_23_method_21_code, 15, (some .int), xk20_36) = true := by decide +kernel
theorem xr20_37 : xRowOk (20, xmn 20 37, prog_23_method_22_code, 6, (some .int), xk20_37) = true := by decide +kernel
theorem xr20_38 : xRowOk (20, xmn 20 38, prog_23_method_39_code, 5, (some .int), xk20_38) = true := by decide +kernel
theorem xr20_39 : xRowOk (20, xmn 20 39, prog_23_method_23_code, 6, (some .int), xk20_39) = true := by decide +kernel
theorem xr20_40 : xRowOk (20, xmn 20 40, prog_23_method_33_code, 5, (some .int), xk20_40) = true := by decide +kernel
theorem xr20_41 : xRowOk (20, xmn 20 41, prog_23_method_55_code, 2, none, xk20_41) = true := by decide +kernel
theorem xr20_42 : xRowOk (20, xmn 20 42, prog_23_method_62_code, 3, none, xk20_42) = true := by decide +kernel
theorem xr20_43 : xRowOk (20, xmn 20 43, prog_23_method_58_code, 7, none, xk20_43) = true := by decide +kernel
theorem xr20_44 : xRowOk (20, xmn 20 44, prog_23_method_56_code, 6, none, xk20_44) = true := by decide +kernel
theorem xr20_45 : xRowOk (20, xmn 20 45, prog_23_method_60_code, 8, none, xk20_45) = true := by decide +kernel
theorem xr20_46 : xRowOk (20, xmn 20 46, prog_23_method_59_code, 5, none, xk20_46) = true := by decide +kernel
theorem xr20_47 : xRowOk (20, xmn 20 47, prog_23_method_57_code, 5, none, xk20_47) = true := by decide +kernel
theorem xr20_48 : xRowOk (20, xmn 20 48, prog_23_method_32_code, 4, (some .int), xk20_48) = true := by decide +kernel
theorem xr20_49 : xRowOk (20, xmn 20 49, prog_23_method_6_code, 8, (some .long), xk20_49) = true := by decide +kernel
theorem xr20_50 : xRowOk (20, xmn 20 50, prog_23_method_47_code, 5, (some .int), xk20_50) = true := by decide +kernel
theorem xr20_51 : xRowOk (20, xmn 20 51, prog_23_method_2_code, 1, (some .int), xk20_51) = true := by decide +kernel
theorem xr20_52 : xRowOk (20, xmn 20 52, prog_23_method_3_code, 3, (some .boolean), xk20_52) = true := by decide +kernel
theorem xr20_53 : xRowOk (20, xmn 20 53, prog_23_method_20_code, 6, (some .long), xk20_53) = true := by decide +kernel
theorem xr20_54 : xRowOk (20, xmn 20 54, prog_23_method_31_code, 7, (some .int), xk20_54) = true := by decide +kernel
theorem xr20_55 : xRowOk (20, xmn 20 55, prog_23_method_64_code, 2, (some .int), xk20_55) = true := by decide +kernel
theorem xr20_56 : xRowOk (20, xmn 20 56, prog_23_method_63_code, 5, none, xk20_56) = true := by decide +kernel
