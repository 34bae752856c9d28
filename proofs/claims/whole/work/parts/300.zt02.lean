/-! TABLES of what methods of class 2 ask -/
def zt2_0 (h : Nat) : ZB := [(0, [zf_ald 0, zf_getI 2 0, zf_ist 3, zf_ild 3, zf_ic 200, zf_ic2 .lt 14, zf_ic (-1), zf_reti], 14),
  (14, [zf_ald 0, zf_dup, zf_getI 2 0, zf_ic 1, zf_add, zf_putI 2 0, zf_ald 0, zf_getR 2 3, zf_ild 3, zf_ild 1, zf_astI, zf_ald 0, zf_getR 2 4, zf_ild 3, zf_ild 2, zf_astI, zf_ald 0, zf_getR 2 5, zf_ild 3, zf_ild 2, zf_if .lt 52, zf_ild 2, zf_ild 3, zf_ic2 .lt 56], 52),
  (52, [zf_ic 0, zf_go 64], 56),
  (56, [zf_ald 0, zf_getR 2 5, zf_ild 2, zf_aldI 100, zf_ic 1, zf_add], 64),
  (64, [zf_astI, zf_ic 0, zf_ist 4], 68),
  (68, [zf_ild 4, zf_ic 5, zf_ic2 .ge 92, zf_ald 0, zf_getR 2 6, zf_ild 3, zf_ic 5, zf_mul, zf_ild 4, zf_add, zf_lc 0, zf_astL, zf_inc 4 1, zf_go 68], 92),
  (92, [zf_ild 1, zf_ic 6, zf_ic2 .ne 107, zf_ald 0, zf_ild 3, zf_ic 2, zf_lc 1270000, zf_inv h 2 23 3], 107),
  (107, [zf_ic 0, zf_ist 4], 110),
  (110, [zf_ild 4, zf_ic 2, zf_ic2 .ge 149, zf_ald 0, zf_getR 2 7, zf_ild 3, zf_ic 2, zf_mul, zf_ild 4, zf_add, zf_ald 0, zf_getI 2 10, zf_astI, zf_ald 0, zf_getR 2 8, zf_ild 3, zf_ic 2, zf_mul, zf_ild 4, zf_add, zf_ic 0, zf_astI, zf_inc 4 1, zf_go 110], 149),
  (149, [zf_ild 3, zf_reti], 151)]
theorem zT2_0 (h : Nat) : zTab h 2 0 5 (zt2_0 h) := zTab.mk (ret := (some .int)) (bl := xk2_0) (by decide +kernel) (by decide +kernel) rfl rfl
def zt2_1 (h : Nat) : ZB := [(0, [zf_ald 0, zf_ild 1, zf_inv h 2 14 1, zf_if .eq 61, zf_ild 2, zf_if .lt 61, zf_ild 2, zf_ic 2, zf_ic2 .ge 61, zf_ald 0, zf_getI 2 10, zf_ic 4000, zf_ic2 .ge 61, zf_ald 0, zf_getR 2 9, zf_ald 0, zf_getI 2 10, zf_ild 3, zf_astC, zf_ald 0, zf_dup, zf_getI 2 10, zf_ic 1, zf_add, zf_putI 2 10, zf_ald 0, zf_getR 2 8, zf_ild 1, zf_ic 2, zf_mul, zf_ild 2, zf_add, zf_dup2, zf_aldI 100, zf_ic 1, zf_add, zf_astI], 61),
  (61, [zf_ret], 62)]
theorem zT2_1 (h : Nat) : zTab h 2 1 4 (zt2_1 h) := zTab.mk (ret := none) (bl := xk2_1) (by decide +kernel) (by decide +kernel) rfl rfl
def zt2_2 (h : Nat) : ZB := [(0, [zf_ald 0, zf_ild 1, zf_putI 2 1, zf_ald 0, zf_ic 0, zf_putI 2 0, zf_ald 0, zf_ic 0, zf_putI 2 2, zf_ald 0, zf_ic 0, zf_putI 2 10, zf_ret], 21)]
theorem zT2_2 (h : Nat) : zTab h 2 2 2 (zt2_2 h) := zTab.mk (ret := none) (bl := xk2_2) (by decide +kernel) (by decide +kernel) rfl rfl
def zt2_3 (h : Nat) : ZB := [(0, [zf_ald 0, zf_getI 2 12, zf_ic 26000, zf_ic2 .ge 30, zf_ald 0, zf_getR 2 11, zf_ald 0, zf_getI 2 12, zf_ild 1, zf_astC, zf_ald 0, zf_dup, zf_getI 2 12, zf_ic 1, zf_add, zf_putI 2 12], 30),
  (30, [zf_ret], 31)]
theorem zT2_3 (h : Nat) : zTab h 2 3 2 (zt2_3 h) := zTab.mk (ret := none) (bl := xk2_3) (by decide +kernel) (by decide +kernel) rfl rfl
def zt2_4 (h : Nat) : ZB := [(0, [zf_lld 1, zf_lc 0, zf_lcmp, zf_if .le 12, zf_ald 0, zf_ic 46, zf_inv h 2 3 1], 12),
  (12, [zf_lld 1, zf_lst 3, zf_lc 100000, zf_lst 5], 19),
  (19, [zf_lld 5, zf_lc 0, zf_lcmp, zf_if .le 62, zf_lld 3, zf_lc 0, zf_lcmp, zf_if .le 62, zf_ald 0, zf_lc 48, zf_lld 3, zf_lld 5, zf_ldiv, zf_ladd, zf_l2i, zf_cv zi2c, zf_inv h 2 3 1, zf_lld 3, zf_lld 5, zf_lrem, zf_lst 3, zf_lld 5, zf_lc 10, zf_ldiv, zf_lst 5, zf_go 19], 62),
  (62, [zf_ret], 63)]
theorem zT2_4 (h : Nat) : zTab h 2 4 7 (zt2_4 h) := zTab.mk (ret := none) (bl := xk2_4) (by decide +kernel) (by decide +kernel) rfl rfl
def zt2_5 (h : Nat) : ZB := [(0, [zf_lld 1, zf_lc 0, zf_lcmp, zf_if .ge 12, zf_ald 0, zf_ic 45, zf_inv h 2 3 1], 12),
  (12, [zf_lld 1, zf_labs, zf_lst 4, zf_ild 3, zf_if .eq 45, zf_ald 0, zf_lld 4, zf_lc 1000000, zf_ldiv, zf_inv h 2 10 1, zf_ald 0, zf_lld 4, zf_lc 1000000, zf_lrem, zf_inv h 2 4 1, zf_go 51], 45),
  (45, [zf_ald 0, zf_lld 4, zf_inv h 2 10 1], 51),
  (51, [zf_ret], 52)]
theorem zT2_5 (h : Nat) : zTab h 2 5 6 (zt2_5 h) := zTab.mk (ret := none) (bl := xk2_5) (by decide +kernel) (by decide +kernel) rfl rfl
def zt2_6 (h : Nat) : ZB := [(0, [zf_ald 0, zf_ald 0, zf_getR 2 3, zf_ild 1, zf_aldI 100, zf_inst h 2 28 1, zf_inv h 2 11 1, zf_ald 0, zf_getR 2 3, zf_ild 1, zf_aldI 100, zf_inst h 2 12 1, zf_ast 2, zf_ic 0, zf_ist 3, zf_ic 0, zf_ist 4, zf_ic 0, zf_ist 5], 31),
  (31, [zf_ild 5, zf_ald 2, zf_slen, zf_ic2 .ge 121, zf_ald 0, zf_ic 32, zf_inv h 2 3 1, zf_ald 2, zf_ild 5, zf_schar, zf_ist 6, zf_ild 6, zf_ic 86, zf_ic2 .ne 70, zf_ald 0, zf_ic 51, zf_inv h 2 3 1, zf_go 115], 70),
  (70, [zf_ild 6, zf_ic 84, zf_ic2 .ne 89, zf_ald 0, zf_ild 1, zf_ild 3, zf_inv h 2 7 2, zf_inc 3 1, zf_go 115], 89),
  (89, [zf_ald 0, zf_ald 0, zf_ild 1, zf_ild 4, zf_inv h 2 18 2, zf_ild 6, zf_ic 78, zf_ic2 .ne 108, zf_ic 1, zf_go 109], 108),
  (108, [zf_ic 0], 109),
  (109, [zf_inv h 2 5 2, zf_inc 4 1], 115),
  (115, [zf_inc 5 1, zf_go 31], 121),
  (121, [zf_ret], 122)]
theorem zT2_6 (h : Nat) : zTab h 2 6 7 (zt2_6 h) := zTab.mk (ret := none) (bl := xk2_6) (by decide +kernel) (by decide +kernel) rfl rfl
def zt2_7 (h : Nat) : ZB := [(0, [zf_ald 0, zf_ic 34, zf_inv h 2 3 1, zf_ic 0, zf_ist 3], 8),
  (8, [zf_ild 3, zf_ald 0, zf_ild 1, zf_ild 2, zf_inv h 2 26 2, zf_ic2 .ge 59, zf_ald 0, zf_ild 1, zf_ild 2, zf_ild 3, zf_inv h 2 17 3, zf_ist 4, zf_ild 4, zf_ic 34, zf_ic2 .eq 41, zf_ild 4, zf_ic 92, zf_ic2 .ne 47], 41),
  (41, [zf_ald 0, zf_ic 92, zf_inv h 2 3 1], 47),
  (47, [zf_ald 0, zf_ild 4, zf_inv h 2 3 1, zf_inc 3 1, zf_go 8], 59),
  (59, [zf_ald 0, zf_ic 34, zf_inv h 2 3 1, zf_ret], 66)]
theorem zT2_7 (h : Nat) : zTab h 2 7 5 (zt2_7 h) := zTab.mk (ret := none) (bl := xk2_7) (by decide +kernel) (by decide +kernel) rfl rfl
def zt2_8 (h : Nat) : ZB := [(0, [zf_ic 0, zf_ist 3], 2),
  (2, [zf_ild 3, zf_ald 0, zf_ild 1, zf_ild 2, zf_inv h 2 26 2, zf_ic2 .ge 29, zf_ald 0, zf_ald 0, zf_ild 1, zf_ild 2, zf_ild 3, zf_inv h 2 17 3, zf_inv h 2 3 1, zf_inc 3 1, zf_go 2], 29),
  (29, [zf_ret], 30)]
theorem zT2_8 (h : Nat) : zTab h 2 8 4 (zt2_8 h) := zTab.mk (ret := none) (bl := xk2_8) (by decide +kernel) (by decide +kernel) rfl rfl
def zt2_9 (h : Nat) : ZB := [(0, [zf_ic 0, zf_ist 3], 2),
  (2, [zf_ild 3, zf_ild 2, zf_ic2 .ge 18, zf_ald 0, zf_ild 1, zf_inv h 2 3 1, zf_inc 3 1, zf_go 2], 18),
  (18, [zf_ret], 19)]
theorem zT2_9 (h : Nat) : zTab h 2 9 4 (zt2_9 h) := zTab.mk (ret := none) (bl := xk2_9) (by decide +kernel) (by decide +kernel) rfl rfl
def zt2_10 (h : Nat) : ZB := [(0, [zf_ic 0, zf_ist 3, zf_lc 1000, zf_lst 4], 7),
  (7, [zf_lld 4, zf_lc 0, zf_lcmp, zf_if .le 71, zf_ild 3, zf_if .ne 32, zf_lld 1, zf_lld 4, zf_lcmp, zf_if .ge 32, zf_lld 4, zf_lc 1, zf_lcmp, zf_if .ne 36], 32),
  (32, [zf_ic 1, zf_go 37], 36),
  (36, [zf_ic 0], 37),
  (37, [zf_ist 3, zf_ild 3, zf_if .eq 60, zf_ald 0, zf_lc 48, zf_lld 1, zf_lld 4, zf_ldiv, zf_lc 10, zf_lrem, zf_ladd, zf_l2i, zf_cv zi2c, zf_inv h 2 3 1], 60),
  (60, [zf_lld 4, zf_lc 10, zf_ldiv, zf_lst 4, zf_go 7], 71),
  (71, [zf_ret], 72)]
theorem zT2_10 (h : Nat) : zTab h 2 10 6 (zt2_10 h) := zTab.mk (ret := none) (bl := xk2_10) (by decide +kernel) (by decide +kernel) rfl rfl
def zt2_11 (h : Nat) : ZB := [(0, [zf_ic 0, zf_ist 2], 2),
  (2, [zf_ild 2, zf_ald 1, zf_slen, zf_ic2 .ge 25, zf_ald 0, zf_ald 1, zf_ild 2, zf_schar, zf_inv h 2 3 1, zf_inc 2 1, zf_go 2], 25),
  (25, [zf_ret], 26)]
theorem zT2_11 (h : Nat) : zTab h 2 11 3 (zt2_11 h) := zTab.mk (ret := none) (bl := xk2_11) (by decide +kernel) (by decide +kernel) rfl rfl
def zt2_12 (h : Nat) : ZB := [(0, [zf_ild 0, zf_sw 79 0 8 [52, 55, 58, 61, 64, 67, 70, 73, 76]], 52),
  (52, [zf_rc 20, zf_reta], 55),
  (55, [zf_rc 21, zf_reta], 58),
  (58, [zf_rc 22, zf_reta], 61),
  (61, [zf_rc 23, zf_reta], 64),
  (64, [zf_rc 24, zf_reta], 67),
  (67, [zf_rc 25, zf_reta], 70),
  (70, [zf_rc 26, zf_reta], 73),
  (73, [zf_rc 27, zf_reta], 76),
  (76, [zf_rc 28, zf_reta], 79),
  (79, [zf_rc 19, zf_reta], 82)]
theorem zT2_12 (h : Nat) : zTab h 2 12 1 (zt2_12 h) := zTab.mk (ret := (some (.object "java/lang/String"))) (bl := xk2_12) (by decide +kernel) (by decide +kernel) rfl rfl
def zt2_14 (h : Nat) : ZB := [(0, [zf_ild 1, zf_if .lt 16, zf_ild 1, zf_ald 0, zf_getI 2 0, zf_ic2 .ge 16, zf_ic 1, zf_go 17], 16),
  (16, [zf_ic 0], 17),
  (17, [zf_retz], 18)]
theorem zT2_14 (h : Nat) : zTab h 2 14 2 (zt2_14 h) := zTab.mk (ret := (some .boolean)) (bl := xk2_14) (by decide +kernel) (by decide +kernel) rfl rfl
def zt2_15 (h : Nat) : ZB := [(0, [zf_ald 0, zf_ild 1, zf_ic 0, zf_inv h 2 24 2, zf_ild 3, zf_ist 5], 9),
  (9, [zf_ild 5, zf_ild 4, zf_ic2 .ge 39, zf_ild 5, zf_ald 2, zf_len, zf_ic2 .ge 39, zf_ald 0, zf_ild 1, zf_ic 0, zf_ald 2, zf_ild 5, zf_aldI 104, zf_inv h 2 1 3, zf_inc 5 1, zf_go 9], 39),
  (39, [zf_ald 0, zf_dup, zf_getI 2 2, zf_ild 4, zf_ild 3, zf_sub, zf_add, zf_putI 2 2, zf_ret], 53)]
theorem zT2_15 (h : Nat) : zTab h 2 15 6 (zt2_15 h) := zTab.mk (ret := none) (bl := xk2_15) (by decide +kernel) (by decide +kernel) rfl rfl
def zt2_16 (h : Nat) : ZB := [(0, [zf_ald 0, zf_ild 1, zf_inv h 2 14 1, zf_if .eq 17, zf_ald 0, zf_getR 2 3, zf_ild 1, zf_aldI 100, zf_go 18], 17),
  (17, [zf_ic (-1)], 18),
  (18, [zf_reti], 19)]
theorem zT2_16 (h : Nat) : zTab h 2 16 2 (zt2_16 h) := zTab.mk (ret := (some .int)) (bl := xk2_16) (by decide +kernel) (by decide +kernel) rfl rfl
def zt2_17 (h : Nat) : ZB := [(0, [zf_ald 0, zf_getR 2 9, zf_ald 0, zf_getR 2 7, zf_ild 1, zf_ic 2, zf_mul, zf_ild 2, zf_add, zf_aldI 100, zf_ild 3, zf_add, zf_aldI 104, zf_retc], 18)]
theorem zT2_17 (h : Nat) : zTab h 2 17 4 (zt2_17 h) := zTab.mk (ret := (some .char)) (bl := xk2_17) (by decide +kernel) (by decide +kernel) rfl rfl
def zt2_18 (h : Nat) : ZB := [(0, [zf_ild 2, zf_if .lt 30, zf_ild 2, zf_ic 5, zf_ic2 .ge 30, zf_ald 0, zf_ild 1, zf_inv h 2 14 1, zf_if .eq 30, zf_ald 0, zf_getR 2 6, zf_ild 1, zf_ic 5, zf_mul, zf_ild 2, zf_add, zf_aldL, zf_go 31], 30),
  (30, [zf_lc 0], 31),
  (31, [zf_retl], 32)]
theorem zT2_18 (h : Nat) : zTab h 2 18 3 (zt2_18 h) := zTab.mk (ret := (some .long)) (bl := xk2_18) (by decide +kernel) (by decide +kernel) rfl rfl
def zt2_19 (h : Nat) : ZB := [(0, [zf_ild 1, zf_if .lt 21, zf_ild 1, zf_ald 0, zf_getI 2 12, zf_ic2 .ge 21, zf_ald 0, zf_getR 2 11, zf_ild 1, zf_aldI 104, zf_go 22], 21),
  (21, [zf_ic (-1)], 22),
  (22, [zf_reti], 23)]
theorem zT2_19 (h : Nat) : zTab h 2 19 2 (zt2_19 h) := zTab.mk (ret := (some .int)) (bl := xk2_19) (by decide +kernel) (by decide +kernel) rfl rfl
def zt2_20 (h : Nat) : ZB := [(0, [zf_ald 0, zf_ild 1, zf_inv h 2 14 1, zf_if .eq 17, zf_ald 0, zf_getR 2 4, zf_ild 1, zf_aldI 100, zf_go 18], 17),
  (17, [zf_ic (-1)], 18),
  (18, [zf_reti], 19)]
theorem zT2_20 (h : Nat) : zTab h 2 20 2 (zt2_20 h) := zTab.mk (ret := (some .int)) (bl := xk2_20) (by decide +kernel) (by decide +kernel) rfl rfl
def zt2_21 (h : Nat) : ZB := [(0, [zf_ald 0, zf_ild 1, zf_ild 2, zf_inv h 2 18 2, zf_l2i, zf_reti], 8)]
theorem zT2_21 (h : Nat) : zTab h 2 21 3 (zt2_21 h) := zTab.mk (ret := (some .int)) (bl := xk2_21) (by decide +kernel) (by decide +kernel) rfl rfl
def zt2_22 (h : Nat) : ZB := [(0, [zf_ald 0, zf_ild 1, zf_ild 2, zf_inv h 2 26 2, zf_ald 0, zf_ild 3, zf_ild 4, zf_inv h 2 26 2, zf_ic2 .ne 20, zf_ic 1, zf_go 21], 20),
  (20, [zf_ic 0], 21),
  (21, [zf_ist 5, zf_ic 0, zf_ist 6], 26),
  (26, [zf_ild 6, zf_ald 0, zf_ild 1, zf_ild 2, zf_inv h 2 26 2, zf_ic2 .ge 75, zf_ild 5, zf_if .eq 75, zf_ald 0, zf_ild 1, zf_ild 2, zf_ild 6, zf_inv h 2 17 3, zf_ald 0, zf_ild 3, zf_ild 4, zf_ild 6, zf_inv h 2 17 3, zf_ic2 .ne 66, zf_ic 1, zf_go 67], 66),
  (66, [zf_ic 0], 67),
  (67, [zf_ist 5, zf_inc 6 1, zf_go 26], 75),
  (75, [zf_ild 5, zf_retz], 78)]
theorem zT2_22 (h : Nat) : zTab h 2 22 7 (zt2_22 h) := zTab.mk (ret := (some .boolean)) (bl := xk2_22) (by decide +kernel) (by decide +kernel) rfl rfl
def zt2_23 (h : Nat) : ZB := [(0, [zf_ald 0, zf_ild 1, zf_inv h 2 14 1, zf_if .eq 28, zf_ild 2, zf_if .lt 28, zf_ild 2, zf_ic 5, zf_ic2 .ge 28, zf_ald 0, zf_getR 2 6, zf_ild 1, zf_ic 5, zf_mul, zf_ild 2, zf_add, zf_lld 3, zf_astL], 28),
  (28, [zf_ret], 29)]
theorem zT2_23 (h : Nat) : zTab h 2 23 5 (zt2_23 h) := zTab.mk (ret := none) (bl := xk2_23) (by decide +kernel) (by decide +kernel) rfl rfl
def zt2_24 (h : Nat) : ZB := [(0, [zf_ald 0, zf_ild 1, zf_inv h 2 14 1, zf_if .eq 31, zf_ild 2, zf_if .lt 31, zf_ild 2, zf_ic 2, zf_ic2 .ge 31, zf_ald 0, zf_getR 2 7, zf_ild 1, zf_ic 2, zf_mul, zf_ild 2, zf_add, zf_ald 0, zf_getI 2 10, zf_astI], 31),
  (31, [zf_ret], 32)]
theorem zT2_24 (h : Nat) : zTab h 2 24 3 (zt2_24 h) := zTab.mk (ret := none) (bl := xk2_24) (by decide +kernel) (by decide +kernel) rfl rfl
def zt2_25 (h : Nat) : ZB := [(0, [zf_ald 0, zf_ild 1, zf_ild 2, zf_inv h 2 26 2, zf_ald 3, zf_slen, zf_ic2 .ne 17, zf_ic 1, zf_go 18], 17),
  (17, [zf_ic 0], 18),
  (18, [zf_ist 4, zf_ic 0, zf_ist 5], 23),
  (23, [zf_ild 5, zf_ald 3, zf_slen, zf_ic2 .ge 67, zf_ild 4, zf_if .eq 67, zf_ald 0, zf_ild 1, zf_ild 2, zf_ild 5, zf_inv h 2 17 3, zf_ald 3, zf_ild 5, zf_schar, zf_ic2 .ne 58, zf_ic 1, zf_go 59], 58),
  (58, [zf_ic 0], 59),
  (59, [zf_ist 4, zf_inc 5 1, zf_go 23], 67),
  (67, [zf_ild 4, zf_retz], 70)]
theorem zT2_25 (h : Nat) : zTab h 2 25 6 (zt2_25 h) := zTab.mk (ret := (some .boolean)) (bl := xk2_25) (by decide +kernel) (by decide +kernel) rfl rfl
def zt2_26 (h : Nat) : ZB := [(0, [zf_ald 0, zf_ild 1, zf_inv h 2 14 1, zf_if .eq 21, zf_ald 0, zf_getR 2 8, zf_ild 1, zf_ic 2, zf_mul, zf_ild 2, zf_add, zf_aldI 100, zf_go 22], 21),
  (21, [zf_ic 0], 22),
  (22, [zf_reti], 23)]
theorem zT2_26 (h : Nat) : zTab h 2 26 3 (zt2_26 h) := zTab.mk (ret := (some .int)) (bl := xk2_26) (by decide +kernel) (by decide +kernel) rfl rfl
def zt2_27 (h : Nat) : ZB := [(0, [zf_ild 3, zf_if .lt 24, zf_ild 3, zf_ald 0, zf_ild 1, zf_ild 2, zf_inv h 2 26 2, zf_ic2 .ge 24, zf_ald 0, zf_ild 1, zf_ild 2, zf_ild 3, zf_inv h 2 17 3, zf_go 25], 24),
  (24, [zf_ic (-1)], 25),
  (25, [zf_reti], 26)]
theorem zT2_27 (h : Nat) : zTab h 2 27 4 (zt2_27 h) := zTab.mk (ret := (some .int)) (bl := xk2_27) (by decide +kernel) (by decide +kernel) rfl rfl
def zt2_28 (h : Nat) : ZB := [(0, [zf_ild 0, zf_sw 79 0 8 [52, 55, 58, 61, 64, 67, 70, 73, 76]], 52),
  (52, [zf_rc 10, zf_reta], 55),
  (55, [zf_rc 11, zf_reta], 58),
  (58, [zf_rc 12, zf_reta], 61),
  (61, [zf_rc 13, zf_reta], 64),
  (64, [zf_rc 14, zf_reta], 67),
  (67, [zf_rc 15, zf_reta], 70),
  (70, [zf_rc 16, zf_reta], 73),
  (73, [zf_rc 17, zf_reta], 76),
  (76, [zf_rc 18, zf_reta], 79),
  (79, [zf_rc 19, zf_reta], 82)]
theorem zT2_28 (h : Nat) : zTab h 2 28 1 (zt2_28 h) := zTab.mk (ret := (some (.object "java/lang/String"))) (bl := xk2_28) (by decide +kernel) (by decide +kernel) rfl rfl
def zt2_29 (h : Nat) : ZB := [(0, [zf_ic 0, zf_ist 1], 2),
  (2, [zf_ild 1, zf_ald 0, zf_getI 2 0, zf_ic2 .ge 59, zf_ald 0, zf_ic 46, zf_ald 0, zf_getR 2 5, zf_ild 1, zf_aldI 100, zf_inv h 2 9 2, zf_ald 0, zf_getR 2 3, zf_ild 1, zf_aldI 100, zf_ic 9, zf_ic2 .ne 42, zf_ald 0, zf_ild 1, zf_ic 0, zf_inv h 2 8 2, zf_go 47], 42),
  (42, [zf_ald 0, zf_ild 1, zf_inv h 2 6 1], 47),
  (47, [zf_ald 0, zf_ic 10, zf_inv h 2 3 1, zf_inc 1 1, zf_go 2], 59),
  (59, [zf_ret], 60)]
theorem zT2_29 (h : Nat) : zTab h 2 29 2 (zt2_29 h) := zTab.mk (ret := none) (bl := xk2_29) (by decide +kernel) (by decide +kernel) rfl rfl
def zt2_30 (h : Nat) : ZB := [(0, [zf_ic 0, zf_ist 1, zf_ic 0, zf_ist 2], 4),
  (4, [zf_ild 2, zf_ald 0, zf_getI 2 0, zf_ic2 .ge 96], 12),
  (12, [zf_ild 1, zf_ald 0, zf_getR 2 5, zf_ild 2, zf_aldI 100, zf_ic2 .le 34, zf_ald 0, zf_ic 41, zf_inv h 2 3 1, zf_inc 1 (-1), zf_go 12], 34),
  (34, [zf_ild 2, zf_if .le 56, zf_ald 0, zf_ic 10, zf_inv h 2 3 1, zf_ald 0, zf_ic 32, zf_ald 0, zf_getR 2 5, zf_ild 2, zf_aldI 100, zf_inv h 2 9 2], 56),
  (56, [zf_ald 0, zf_getR 2 3, zf_ild 2, zf_aldI 100, zf_ic 9, zf_ic2 .ne 76, zf_ald 0, zf_ild 2, zf_ic 0, zf_inv h 2 8 2, zf_go 90], 76),
  (76, [zf_ald 0, zf_ic 40, zf_inv h 2 3 1, zf_ald 0, zf_ild 2, zf_inv h 2 6 1, zf_inc 1 1], 90),
  (90, [zf_inc 2 1, zf_go 4], 96),
  (96, [zf_ald 0, zf_ic 41, zf_ild 1, zf_inv h 2 9 2, zf_ald 0, zf_ic 10, zf_inv h 2 3 1, zf_ret], 110)]
theorem zT2_30 (h : Nat) : zTab h 2 30 3 (zt2_30 h) := zTab.mk (ret := none) (bl := xk2_30) (by decide +kernel) (by decide +kernel) rfl rfl
def zt2_31 (h : Nat) : ZB := [(0, [zf_ald 0, zf_ic 0, zf_putI 2 12, zf_ald 0, zf_getI 2 1, zf_if .ne 19, zf_ald 0, zf_inv h 2 30 0, zf_go 23], 19),
  (19, [zf_ald 0, zf_inv h 2 29 0], 23),
  (23, [zf_ret], 24)]
theorem zT2_31 (h : Nat) : zTab h 2 31 1 (zt2_31 h) := zTab.mk (ret := none) (bl := xk2_31) (by decide +kernel) (by decide +kernel) rfl rfl
