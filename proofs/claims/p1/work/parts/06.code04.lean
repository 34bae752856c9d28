/-! the code of class 4, in stretches -/
def xk4_0 : XB := []
def xk4_1 : XB := []
def xk4_2 : XB := []
def xk4_3 : XB := [(0, [(0, .iload_n 1, 0, 0, 0), (1, .ifCond .lt 11, 0, 0, 0), (4, .iload_n 1, 0, 0, 0), (5, .aload_n 0, 0, 0, 0), (6, .getfield 42, 4, 80, 0), (9, .if_icmp .lt 5, 0, 0, 0)], 12),
  (12, [(12, .iconst (-1), 0, 0, 0), (13, .ireturn, 0, 0, 0)], 14),
  (14, [(14, .aload_n 0, 0, 0, 0), (15, .aload_n 0, 0, 0, 0), (16, .getfield 27, 4, 74, 0), (19, .iload_n 1, 0, 0, 0), (20, .iaload, 0, 0, 0), (21, .putfield 103, 4, 128, 0), (24, .aload_n 0, 0, 0, 0), (25, .iconst 0, 0, 0, 0), (26, .putfield 106, 4, 136, 0), (29, .aload_n 0, 0, 0, 0), (30, .iconst 0, 0, 0, 0), (31, .invokevirtual 109, 4, 641, 0), (34, .lstore_n 2, 0, 0, 0), (35, .aload_n 0, 0, 0, 0), (36, .getfield 106, 4, 136, 0), (39, .ifCond .eq 6, 0, 0, 0), (42, .bipush (-2), 0, 0, 0), (44, .ireturn, 0, 0, 0)], 45),
  (45, [(45, .lload_n 2, 0, 0, 0), (46, .lconst 0, 0, 0, 0), (47, .lcmp, 0, 0, 0), (48, .ifCond .eq 7, 0, 0, 0), (51, .iconst 1, 0, 0, 0), (52, .goto 4, 0, 0, 0)], 55),
  (55, [(55, .iconst 0, 0, 0, 0)], 56),
  (56, [(56, .ireturn, 0, 0, 0)], 57)]
def xk4_4 : XB := []
def xk4_5 : XB := [(0, [(0, .aload_n 0, 0, 0, 0), (1, .iconst 0, 0, 0, 0), (2, .putfield 48, 4, 104, 0), (5, .aload_n 0, 0, 0, 0), (6, .iconst (-1), 0, 0, 0), (7, .putfield 35, 4, 112, 0), (10, .aload_n 0, 0, 0, 0), (11, .iconst 0, 0, 0, 0), (12, .putfield 51, 4, 120, 0), (15, .return_, 0, 0, 0)], 16)]
def xk4_6 : XB := []
def xk4_7 : XB := []
def xk4_8 : XB := []
def xk4_9 : XB := [(0, [(0, .iload_n 1, 0, 0, 0), (1, .tableswitch 42 0 2 #[27, 32, 37], 0, 0, 0)], 28),
  (28, [(28, .aload_n 0, 0, 0, 0), (29, .getfield 48, 4, 104, 0), (32, .ireturn, 0, 0, 0)], 33),
  (33, [(33, .aload_n 0, 0, 0, 0), (34, .getfield 35, 4, 112, 0), (37, .ireturn, 0, 0, 0)], 38),
  (38, [(38, .aload_n 0, 0, 0, 0), (39, .getfield 51, 4, 120, 0), (42, .ireturn, 0, 0, 0)], 43),
  (43, [(43, .iconst (-1), 0, 0, 0), (44, .ireturn, 0, 0, 0)], 45)]
def xk4_10 : XB := []
def xk4_11 : XB := []
def xk4_12 : XB := []
def xk4_13 : XB := [(0, [(0, .iconst 0, 0, 0, 0), (1, .istore_n 2, 0, 0, 0)], 2),
  (2, [(2, .iload_n 2, 0, 0, 0), (3, .aload_n 0, 0, 0, 0), (4, .getfield 9, 4, 10, 0), (7, .arraylength, 0, 0, 0), (8, .if_icmp .ge 16, 0, 0, 0), (11, .aload_n 0, 0, 0, 0), (12, .getfield 9, 4, 10, 0), (15, .iload_n 2, 0, 0, 0), (16, .lconst 0, 0, 0, 0), (17, .lastore, 0, 0, 0), (18, .iinc 2 1, 0, 0, 0), (21, .goto (-19), 0, 0, 0)], 24),
  (24, [(24, .aload_n 0, 0, 0, 0), (25, .iconst 0, 0, 0, 0), (26, .putfield 39, 4, 64, 0), (29, .aload_n 0, 0, 0, 0), (30, .iconst 0, 0, 0, 0), (31, .putfield 42, 4, 80, 0), (34, .aload_n 0, 0, 0, 0), (35, .invokevirtual 45, 4, 320, 0), (38, .aload_n 0, 0, 0, 0), (39, .iload_n 1, 0, 0, 0), (40, .putfield 90, 4, 88, 0), (43, .aload_n 0, 0, 0, 0), (44, .iconst 0, 0, 0, 0), (45, .putfield 93, 4, 99, 0), (48, .aload_n 0, 0, 0, 0), (49, .iconst 0, 0, 0, 0), (50, .sipush 400, 0, 0, 0), (53, .iconst 0, 0, 0, 0), (54, .iconst 0, 0, 0, 0), (55, .invokevirtual 99, 4, 1924, 0), (58, .aload_n 0, 0, 0, 0), (59, .getfield 93, 4, 99, 0), (62, .ifCond .eq 9, 0, 0, 0), (65, .aload_n 0, 0, 0, 0), (66, .invokevirtual 45, 4, 320, 0), (69, .iconst 2, 0, 0, 0), (70, .ireturn, 0, 0, 0)], 71),
  (71, [(71, .aload_n 0, 0, 0, 0), (72, .getfield 48, 4, 104, 0), (75, .ifCond .ne 7, 0, 0, 0), (78, .iconst 0, 0, 0, 0), (79, .goto 4, 0, 0, 0)], 82),
  (82, [(82, .iconst 1, 0, 0, 0)], 83),
  (83, [(83, .ireturn, 0, 0, 0)], 84)]
def xk4_14 : XB := [(0, [(0, .aload_n 0, 0, 0, 0), (1, .invokespecial 3, 999, 0, 0), (4, .aload_n 0, 0, 0, 0), (5, .bipush 26, 0, 0, 0), (7, .newarray .long, 101, 0, 0), (9, .putfield 9, 4, 10, 0), (12, .aload_n 0, 0, 0, 0), (13, .bipush 72, 0, 0, 0), (15, .newarray .long, 101, 0, 0), (17, .putfield 15, 4, 18, 0), (20, .aload_n 0, 0, 0, 0), (21, .sipush 720, 0, 0, 0), (24, .newarray .long, 101, 0, 0), (26, .putfield 18, 4, 34, 0), (29, .aload_n 0, 0, 0, 0), (30, .bipush 20, 0, 0, 0), (32, .newarray .long, 101, 0, 0), (34, .putfield 21, 4, 42, 0), (37, .aload_n 0, 0, 0, 0), (38, .bipush 40, 0, 0, 0), (40, .newarray .long, 101, 0, 0), (42, .putfield 24, 4, 58, 0), (45, .aload_n 0, 0, 0, 0), (46, .bipush 8, 0, 0, 0), (48, .newarray .int, 100, 0, 0), (50, .putfield 27, 4, 74, 0), (53, .aload_n 0, 0, 0, 0), (54, .aload_n 1, 0, 0, 0), (55, .putfield 31, 4, 2, 0), (58, .aload_n 0, 0, 0, 0), (59, .iconst (-1), 0, 0, 0), (60, .putfield 35, 4, 112, 0), (63, .return_, 0, 0, 0)], 64)]
def xk4_15 : XB := [(0, [(0, .aload_n 0, 0, 0, 0), (1, .getfield 93, 4, 99, 0), (4, .ifCond .ne 14, 0, 0, 0), (7, .aload_n 0, 0, 0, 0), (8, .getfield 48, 4, 104, 0), (11, .ifCond .ne 7, 0, 0, 0), (14, .iconst 1, 0, 0, 0), (15, .goto 4, 0, 0, 0)], 18),
  (18, [(18, .iconst 0, 0, 0, 0)], 19),
  (19, [(19, .ireturn, 0, 0, 0)], 20)]
def xk4_16 : XB := []
def xk4_17 : XB := []
def xk4_18 : XB := []
def xk4_19 : XB := []
def xk4_20 : XB := []
def xk4_21 : XB := []
def xk4_22 : XB := []
def xk4_23 : XB := []
def xk4_24 : XB := []
def xk4_25 : XB := []
def xk4_26 : XB := []
def xk4_27 : XB := [(0, [(0, .aload_n 0, 0, 0, 0), (1, .aload_n 1, 0, 0, 0), (2, .putfield 31, 4, 2, 0), (5, .aload_n 0, 0, 0, 0), (6, .iconst 0, 0, 0, 0), (7, .putfield 39, 4, 64, 0), (10, .aload_n 0, 0, 0, 0), (11, .iconst 0, 0, 0, 0), (12, .putfield 42, 4, 80, 0), (15, .aload_n 0, 0, 0, 0), (16, .invokevirtual 45, 4, 320, 0), (19, .return_, 0, 0, 0)], 20)]
def xk4_28 : XB := []
def xk4_29 : XB := []
def xk4_30 : XB := [(0, [(0, .iload_n 1, 0, 0, 0), (1, .istore 5, 0, 0, 0), (3, .iconst 0, 0, 0, 0), (4, .istore 6, 0, 0, 0)], 6),
  (6, [(6, .iload 6, 0, 0, 0), (8, .sipush 400, 0, 0, 0), (11, .if_icmp .gt 72, 0, 0, 0), (14, .iload 5, 0, 0, 0), (16, .iload_n 2, 0, 0, 0), (17, .if_icmp .ge 66, 0, 0, 0), (20, .aload_n 0, 0, 0, 0), (21, .invokevirtual 116, 4, 960, 0), (24, .ifCond .eq 59, 0, 0, 0), (27, .iload 4, 0, 0, 0), (29, .bipush 10, 0, 0, 0), (31, .if_icmp .ge 52, 0, 0, 0), (34, .aload_n 0, 0, 0, 0), (35, .getfield 31, 4, 2, 0), (38, .iload 5, 0, 0, 0), (40, .invokevirtual 120, 8, 641, 0), (43, .istore 7, 0, 0, 0), (45, .iload 7, 0, 0, 0), (47, .iconst (-1), 0, 0, 0), (48, .if_icmp .ne 4, 0, 0, 0), (51, .return_, 0, 0, 0)], 52),
  (52, [(52, .iload 7, 0, 0, 0), (54, .bipush 10, 0, 0, 0), (56, .if_icmp .ne 10, 0, 0, 0), (59, .iload 5, 0, 0, 0), (61, .iconst 1, 0, 0, 0), (62, .iadd, 0, 0, 0), (63, .goto 12, 0, 0, 0)], 66),
  (66, [(66, .aload_n 0, 0, 0, 0), (67, .iload 5, 0, 0, 0), (69, .iload_n 3, 0, 0, 0), (70, .iload 4, 0, 0, 0), (72, .invokevirtual 123, 4, 2435, 0)], 75),
  (75, [(75, .istore 5, 0, 0, 0), (77, .iinc 6 1, 0, 0, 0), (80, .goto (-74), 0, 0, 0)], 83),
  (83, [(83, .return_, 0, 0, 0)], 84)]
def xk4_31 : XB := []
def xk4_32 : XB := []
def xk4_33 : XB := []
def xk4_34 : XB := []
def xk4_35 : XB := []
def xk4_36 : XB := []
def xk4_37 : XB := []
def xk4_38 : XB := []
def xk4 : List XB := [xk4_0, xk4_1, xk4_2, xk4_3, xk4_4, xk4_5, xk4_6, xk4_7, xk4_8, xk4_9, xk4_10, xk4_11, xk4_12, xk4_13, xk4_14, xk4_15, xk4_16, xk4_17, xk4_18, xk4_19, xk4_20, xk4_21, xk4_22, xk4_23, xk4_24, xk4_25, xk4_26, xk4_27, xk4_28, xk4_29, xk4_30, xk4_31, xk4_32, xk4_33, xk4_34, xk4_35, xk4_36, xk4_37, xk4_38]
theorem xr4_0 : xRowOk (4, xmn 4 0, prog_6_method_27_code, 2, (some .int), xk4_0) = true := by decide +kernel
theorem xr4_1 : xRowOk (4, xmn 4 1, prog_6_method_22_code, 6, none, xk4_1) = true := by decide +kernel
theorem xr4_2 : xRowOk (4, xmn 4 2, prog_6_method_8_code, 3, (some .boolean), xk4_2) = true := by decide +kernel
theorem xr4_3 : xRowOk (4, xmn 4 3, prog_6_method_7_code, 4, (some .int), xk4_3) = true := by decide +kernel
theorem xr4_4 : xRowOk (4, xmn 4 4, prog_6_method_35_code, 3, (some .long), xk4_4) = true := by decide +kernel
theorem xr4_5 : xRowOk (4, xmn 4 5, prog_6_method_3_code, 1, none, xk4_5) = true := by decide +kernel
theorem xr4_6 : xRowOk (4, xmn 4 6, prog_6_method_37_code, 6, (some .long), xk4_6) = true := by decide +kernel
theorem xr4_7 : xRowOk (4, xmn 4 7, prog_6_method_36_code, 4, (some .long), xk4_7) = true := by decide +kernel
theorem xr4_8 : xRowOk (4, xmn 4 8, prog_6_method_34_code, 6, (some .long), xk4_8) = true := by decide +kernel
theorem xr4_9 : xRowOk (4, xmn 4 9, prog_6_method_6_code, 2, (some .int), xk4_9) = true := by decide +kernel
theorem xr4_10 : xRowOk (4, xmn 4 10, prog_6_method_31_code, 8, (some .long), xk4_10) = true := by decide +kernel
theorem xr4_11 : xRowOk (4, xmn 4 11, prog_6_method_38_code, 4, (some .int), xk4_11) = true := by decide +kernel
theorem xr4_12 : xRowOk (4, xmn 4 12, prog_6_method_11_code, 4, none, xk4_12) = true := by decide +kernel
theorem xr4_13 : xRowOk (4, xmn 4 13, prog_6_method_5_code, 3, (some .int), xk4_13) = true := by decide +kernel
theorem xr4_14 : xRowOk (4, xmn 4 14, prog_6_method_1_code, 2, none, xk4_14) = true := by decide +kernel
theorem xr4_15 : xRowOk (4, xmn 4 15, prog_6_method_9_code, 1, (some .boolean), xk4_15) = true := by decide +kernel
theorem xr4_16 : xRowOk (4, xmn 4 16, prog_6_method_39_code, 3, (some .int), xk4_16) = true := by decide +kernel
theorem xr4_17 : xRowOk (4, xmn 4 17, prog_6_method_23_code, 5, none, xk4_17) = true := by decide +kernel
theorem xr4_18 : xRowOk (4, xmn 4 18, prog_6_method_33_code, 8, (some .long), xk4_18) = true := by decide +kernel
theorem xr4_19 : xRowOk (4, xmn 4 19, prog_6_method_21_code, 3, none, xk4_19) = true := by decide +kernel
theorem xr4_20 : xRowOk (4, xmn 4 20, prog_6_method_28_code, 5, (some .int), xk4_20) = true := by decide +kernel
theorem xr4_21 : xRowOk (4, xmn 4 21, prog_6_method_30_code, 2, none, xk4_21) = true := by decide +kernel
theorem xr4_22 : xRowOk (4, xmn 4 22, prog_6_method_29_code, 5, (some .long), xk4_22) = true := by decide +kernel
theorem xr4_23 : xRowOk (4, xmn 4 23, prog_6_method_24_code, 5, (some .int), xk4_23) = true := by decide +kernel
theorem xr4_24 : xRowOk (4, xmn 4 24, prog_6_method_25_code, 5, (some .int), xk4_24) = true := by decide +kernel
theorem xr4_25 : xRowOk (4, xmn 4 25, prog_6_method_10_code, 1, (some .boolean), xk4_25) = true := by decide +kernel
theorem xr4_26 : xRowOk (4, xmn 4 26, prog_6_method_32_code, 8, (some .long), xk4_26) = true := by decide +kernel
theorem xr4_27 : xRowOk (4, xmn 4 27, prog_6_method_2_code, 2, none, xk4_27) = true := by decide +kernel
theorem xr4_28 : xRowOk (4, xmn 4 28, prog_6_method_4_code, 7, none, xk4_28) = true := by decide +kernel
theorem xr4_29 : xRowOk (4, xmn 4 29, prog_6_method_26_code, 1, (some .long), xk4_29) = true := by decide +kernel
theorem xr4_30 : xRowOk (4, xmn 4 30, prog_6_method_12_code, 8, none, xk4_30) = true := by decide +kernel
theorem xr4_31 : xRowOk (4, xmn 4 31, prog_6_method_18_code, 7, (some .int), xk4_31) = true := by decide +kernel
theorem xr4_32 : xRowOk (4, xmn 4 32, prog_6_method_13_code, 4, (some .int), xk4_32) = true := by decide +kernel
theorem xr4_33 : xRowOk (4, xmn 4 33, prog_6_method_16_code, 5, (some .int), xk4_33) = true := by decide +kernel
theorem xr4_34 : xRowOk (4, xmn 4 34, prog_6_method_17_code, 9, (some .int), xk4_34) = true := by decide +kernel
theorem xr4_35 : xRowOk (4, xmn 4 35, prog_6_method_19_code, 8, (some .int), xk4_35) = true := by decide +kernel
theorem xr4_36 : xRowOk (4, xmn 4 36, prog_6_method_15_code, 9, (some .int), xk4_36) = true := by decide +kernel
theorem xr4_37 : xRowOk (4, xmn 4 37, prog_6_method_20_code, 6, (some .int), xk4_37) = true := by decide +kernel
theorem xr4_38 : xRowOk (4, xmn 4 38, prog_6_method_14_code, 5, (some .int), xk4_38) = true := by decide +kernel
