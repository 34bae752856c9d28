/-! TABLES of what methods of class 16 ask -/
def zt16_0 (h : Nat) : ZB := [(0, [zf_ic 60, zf_ild 1, zf_mul, zf_ald 0, zf_getR 16 4, zf_ild 1, zf_aldI 100, zf_add, zf_ist 14, zf_ald 0, zf_getR 16 5, zf_ild 14, zf_ild 2, zf_astI, zf_ald 0, zf_getR 16 6, zf_ild 14, zf_lld 3, zf_astL, zf_ald 0, zf_getR 16 7, zf_ild 14, zf_lld 5, zf_astL, zf_ald 0, zf_getR 16 8, zf_ild 14, zf_lld 7, zf_astL, zf_ald 0, zf_getR 16 9, zf_ild 14, zf_lld 9, zf_astL, zf_ald 0, zf_getR 16 10, zf_ild 14, zf_ild 11, zf_astI, zf_ald 0, zf_getR 16 11, zf_ild 14, zf_ild 12, zf_astI, zf_ald 0, zf_getR 16 12, zf_ild 14, zf_ild 13, zf_astB, zf_ald 0, zf_getR 16 4, zf_ild 1, zf_dup2, zf_aldI 100, zf_ic 1, zf_add, zf_astI, zf_ald 0, zf_getR 16 4, zf_ild 1, zf_aldI 100, zf_ic 1, zf_sub, zf_reti], 102)]
theorem zT16_0 (h : Nat) : zTab h 16 0 15 (zt16_0 h) := zTab.mk (ret := (some .int)) (bl := xk16_0) (by decide +kernel) (by decide +kernel) rfl rfl
def zt16_1 (h : Nat) : ZB := [(0, [zf_ald 0, zf_getR 16 2, zf_ic 10, zf_ild 1, zf_mul, zf_ald 0, zf_getR 16 1, zf_ild 1, zf_aldI 100, zf_add, zf_lld 2, zf_astL, zf_ald 0, zf_getR 16 3, zf_ic 10, zf_ild 1, zf_mul, zf_ald 0, zf_getR 16 1, zf_ild 1, zf_aldI 100, zf_add, zf_ild 4, zf_astB, zf_ald 0, zf_getR 16 1, zf_ild 1, zf_dup2, zf_aldI 100, zf_ic 1, zf_add, zf_astI, zf_ald 0, zf_getR 16 1, zf_ild 1, zf_aldI 100, zf_ic 1, zf_sub, zf_reti], 54)]
theorem zT16_1 (h : Nat) : zTab h 16 1 5 (zt16_1 h) := zTab.mk (ret := (some .int)) (bl := xk16_1) (by decide +kernel) (by decide +kernel) rfl rfl
def zt16_2 (h : Nat) : ZB := [(0, [zf_ald 0, zf_ild 1, zf_if .lt 29, zf_ild 1, zf_ald 0, zf_getR 16 4, zf_ic 0, zf_aldI 100, zf_ic2 .ge 29, zf_ild 2, zf_if .lt 29, zf_ild 2, zf_ic 8, zf_ic2 .ge 29, zf_ic 0, zf_go 30], 29),
  (29, [zf_ic 1], 30),
  (30, [zf_putI 16 0, zf_ald 0, zf_getI 16 0, zf_if .eq 42, zf_lc 0, zf_retl], 42),
  (42, [zf_ild 2, zf_sw 136 0 6 [84, 92, 99, 106, 113, 120, 128]], 84),
  (84, [zf_ald 0, zf_getR 16 5, zf_ild 1, zf_aldI 100, zf_i2l, zf_retl], 92),
  (92, [zf_ald 0, zf_getR 16 6, zf_ild 1, zf_aldL, zf_retl], 99),
  (99, [zf_ald 0, zf_getR 16 7, zf_ild 1, zf_aldL, zf_retl], 106),
  (106, [zf_ald 0, zf_getR 16 8, zf_ild 1, zf_aldL, zf_retl], 113),
  (113, [zf_ald 0, zf_getR 16 9, zf_ild 1, zf_aldL, zf_retl], 120),
  (120, [zf_ald 0, zf_getR 16 10, zf_ild 1, zf_aldI 100, zf_i2l, zf_retl], 128),
  (128, [zf_ald 0, zf_getR 16 11, zf_ild 1, zf_aldI 100, zf_i2l, zf_retl], 136),
  (136, [zf_ald 0, zf_getR 16 12, zf_ild 1, zf_aldB, zf_if .eq 149, zf_lc 1, zf_go 150], 149),
  (149, [zf_lc 0], 150),
  (150, [zf_retl], 151)]
theorem zT16_2 (h : Nat) : zTab h 16 2 3 (zt16_2 h) := zTab.mk (ret := (some .long)) (bl := xk16_2) (by decide +kernel) (by decide +kernel) rfl rfl
def zt16_3 (h : Nat) : ZB := [(0, [zf_ald 0, zf_ic 0, zf_putI 16 0, zf_ald 0, zf_getR 16 1, zf_ic 0, zf_ic 0, zf_astI, zf_ald 0, zf_getR 16 4, zf_ic 0, zf_ic 0, zf_astI, zf_ald 0, zf_ic 0, zf_putI 16 19, zf_ald 0, zf_ic 0, zf_putI 16 25, zf_ald 0, zf_ic 0, zf_putI 16 29, zf_ret], 35)]
theorem zT16_3 (h : Nat) : zTab h 16 3 1 (zt16_3 h) := zTab.mk (ret := none) (bl := xk16_3) (by decide +kernel) (by decide +kernel) rfl rfl
def zt16_4 (h : Nat) : ZB := [(0, [zf_ald 0, zf_ic 0, zf_putI 16 13, zf_ic 0, zf_ist 2], 7),
  (7, [zf_ild 2, zf_ald 0, zf_getR 16 4, zf_ic 0, zf_aldI 100, zf_ic2 .ge 56, zf_ald 0, zf_getR 16 5, zf_ild 2, zf_aldI 100, zf_ild 1, zf_ic2 .eq 30, zf_go 50], 30),
  (30, [zf_ald 0, zf_getR 16 14, zf_ald 0, zf_getI 16 13, zf_ild 2, zf_astI, zf_ald 0, zf_dup, zf_getI 16 13, zf_ic 1, zf_add, zf_putI 16 13], 50),
  (50, [zf_inc 2 1, zf_go 7], 56),
  (56, [zf_ret], 57)]
theorem zT16_4 (h : Nat) : zTab h 16 4 3 (zt16_4 h) := zTab.mk (ret := none) (bl := xk16_4) (by decide +kernel) (by decide +kernel) rfl rfl
def zt16_5 (h : Nat) : ZB := [(0, [zf_ald 0, zf_ic 10, zf_inv h 16 6 1, zf_ald 0, zf_getI 16 23, zf_ic (-1), zf_ic2 .ne 29, zf_ald 0, zf_getI 16 24, zf_if .ne 29, zf_ald 0, zf_ald 0, zf_getI 16 22, zf_putI 16 23], 29),
  (29, [zf_ald 0, zf_getI 16 23, zf_ic (-1), zf_ic2 .ne 41, zf_ic 1, zf_go 42], 41),
  (41, [zf_ic 0], 42),
  (42, [zf_retz], 43)]
theorem zT16_5 (h : Nat) : zTab h 16 5 1 (zt16_5 h) := zTab.mk (ret := (some .boolean)) (bl := xk16_5) (by decide +kernel) (by decide +kernel) rfl rfl
def zt16_6 (h : Nat) : ZB := [(0, [zf_ald 0, zf_getI 16 23, zf_ic (-1), zf_ic2 .eq 9, zf_ret], 9),
  (9, [zf_ald 0, zf_inv h 16 16 0, zf_ild 1, zf_ic2 .ne 30, zf_ald 0, zf_dup, zf_getI 16 21, zf_ic 1, zf_add, zf_putI 16 21, zf_go 38], 30),
  (30, [zf_ald 0, zf_ald 0, zf_getI 16 21, zf_putI 16 23], 38),
  (38, [zf_ret], 39)]
theorem zT16_6 (h : Nat) : zTab h 16 6 2 (zt16_6 h) := zTab.mk (ret := none) (bl := xk16_6) (by decide +kernel) (by decide +kernel) rfl rfl
def zt16_7 (h : Nat) : ZB := [(0, [zf_ald 0, zf_ild 1, zf_inv h 16 4 1, zf_ald 0, zf_getI 16 13, zf_ic 8, zf_ic2 .le 21, zf_ald 0, zf_inv h 16 20 0, zf_go 25], 21),
  (21, [zf_ald 0, zf_inv h 16 19 0], 25),
  (25, [zf_ret], 26)]
theorem zT16_7 (h : Nat) : zTab h 16 7 2 (zt16_7 h) := zTab.mk (ret := none) (bl := xk16_7) (by decide +kernel) (by decide +kernel) rfl rfl
def zt16_8 (h : Nat) : ZB := [(0, [zf_ald 0, zf_ald 0, zf_ild 1, zf_inv h 16 14 1, zf_if .eq 27, zf_ild 6, zf_i2l, zf_inst h 16 12 1, zf_if .eq 27, zf_ild 7, zf_i2l, zf_inst h 16 12 1, zf_if .ne 31], 27),
  (27, [zf_ic 1, zf_go 52], 31),
  (31, [zf_lld 2, zf_lld 4, zf_inst h 16 13 2, zf_if .eq 51, zf_ild 6, zf_ild 7, zf_ic2 .gt 51, zf_ic 0, zf_go 52], 51),
  (51, [zf_ic 2], 52),
  (52, [zf_putI 16 0, zf_ald 0, zf_getI 16 0, zf_if .eq 64, zf_ic 0, zf_reti], 64),
  (64, [zf_ald 0, zf_getR 16 4, zf_ic 0, zf_aldI 100, zf_ic 60, zf_ic2 .ne 79, zf_ic (-1), zf_go 96], 79),
  (79, [zf_ald 0, zf_ic 0, zf_ild 1, zf_lld 2, zf_lld 4, zf_lld 2, zf_lld 4, zf_ild 6, zf_ild 7, zf_ic 0, zf_inv h 16 0 9], 96),
  (96, [zf_reti], 97)]
theorem zT16_8 (h : Nat) : zTab h 16 8 8 (zt16_8 h) := zTab.mk (ret := (some .int)) (bl := xk16_8) (by decide +kernel) (by decide +kernel) rfl rfl
def zt16_9 (h : Nat) : ZB := [(0, [zf_ald 0, zf_ini, zf_ald 0, zf_ic 2, zf_newA 100, zf_putR 16 1, zf_ald 0, zf_ic 20, zf_newA 101, zf_putR 16 2, zf_ald 0, zf_ic 20, zf_newA 103, zf_putR 16 3, zf_ald 0, zf_ic 2, zf_newA 100, zf_putR 16 4, zf_ald 0, zf_ic 120, zf_newA 100, zf_putR 16 5, zf_ald 0, zf_ic 120, zf_newA 101, zf_putR 16 6, zf_ald 0, zf_ic 120, zf_newA 101, zf_putR 16 7, zf_ald 0, zf_ic 120, zf_newA 101, zf_putR 16 8, zf_ald 0, zf_ic 120, zf_newA 101, zf_putR 16 9, zf_ald 0, zf_ic 120, zf_newA 100, zf_putR 16 10, zf_ald 0, zf_ic 120, zf_newA 100, zf_putR 16 11, zf_ald 0, zf_ic 120, zf_newA 103, zf_putR 16 12, zf_ald 0, zf_ic 60, zf_newA 100, zf_putR 16 14, zf_ald 0, zf_ic 60, zf_newA 100, zf_putR 16 15, zf_ald 0, zf_ic 2048, zf_newA 101, zf_putR 16 16, zf_ald 0, zf_ic 3000, zf_newA 100, zf_putR 16 18, zf_ald 0, zf_ic 2000, zf_newA 100, zf_putR 16 20, zf_ald 0, zf_ic 8, zf_newA 100, zf_putR 16 26, zf_ald 0, zf_ic 8, zf_newA 100, zf_putR 16 27, zf_ald 0, zf_ic 2400, zf_newA 100, zf_putR 16 28, zf_ald 0, zf_ic 2600, zf_newA 100, zf_putR 16 30, zf_ret], 176)]
theorem zT16_9 (h : Nat) : zTab h 16 9 1 (zt16_9 h) := zTab.mk (ret := none) (bl := xk16_9) (by decide +kernel) (by decide +kernel) rfl rfl
def zt16_10 (h : Nat) : ZB := [(0, [zf_lld 0, zf_lc 1, zf_lcmp, zf_if .lt 18, zf_lld 0, zf_lc 10000, zf_lcmp, zf_if .gt 18, zf_ic 1, zf_go 19], 18),
  (18, [zf_ic 0], 19),
  (19, [zf_retz], 20)]
theorem zT16_10 (h : Nat) : zTab h 16 10 2 (zt16_10 h) := zTab.mk (ret := (some .boolean)) (bl := xk16_10) (by decide +kernel) (by decide +kernel) rfl rfl
def zt16_11 (h : Nat) : ZB := [(0, [zf_ald 0, zf_inv h 16 16 0, zf_ic 48, zf_ic2 .lt 22, zf_ald 0, zf_inv h 16 16 0, zf_ic 57, zf_ic2 .gt 22, zf_ic 1, zf_go 23], 22),
  (22, [zf_ic 0], 23),
  (23, [zf_retz], 24)]
theorem zT16_11 (h : Nat) : zTab h 16 11 1 (zt16_11 h) := zTab.mk (ret := (some .boolean)) (bl := xk16_11) (by decide +kernel) (by decide +kernel) rfl rfl
def zt16_12 (h : Nat) : ZB := [(0, [zf_lld 0, zf_lc 0, zf_lcmp, zf_if .lt 18, zf_lld 0, zf_lc 8, zf_lcmp, zf_if .ge 18, zf_ic 1, zf_go 19], 18),
  (18, [zf_ic 0], 19),
  (19, [zf_retz], 20)]
theorem zT16_12 (h : Nat) : zTab h 16 12 2 (zt16_12 h) := zTab.mk (ret := (some .boolean)) (bl := xk16_12) (by decide +kernel) (by decide +kernel) rfl rfl
def zt16_13 (h : Nat) : ZB := [(0, [zf_lld 0, zf_lc (-1000000), zf_lcmp, zf_if .lt 36, zf_lld 0, zf_lc 1000000, zf_lcmp, zf_if .gt 36, zf_lld 2, zf_lc (-1000000), zf_lcmp, zf_if .lt 36, zf_lld 2, zf_lc 1000000, zf_lcmp, zf_if .gt 36, zf_ic 1, zf_go 37], 36),
  (36, [zf_ic 0], 37),
  (37, [zf_retz], 38)]
theorem zT16_13 (h : Nat) : zTab h 16 13 4 (zt16_13 h) := zTab.mk (ret := (some .boolean)) (bl := xk16_13) (by decide +kernel) (by decide +kernel) rfl rfl
def zt16_14 (h : Nat) : ZB := [(0, [zf_ild 1, zf_if .lt 18, zf_ild 1, zf_ald 0, zf_getR 16 1, zf_ic 0, zf_aldI 100, zf_ic2 .ge 18, zf_ic 1, zf_go 19], 18),
  (18, [zf_ic 0], 19),
  (19, [zf_retz], 20)]
theorem zT16_14 (h : Nat) : zTab h 16 14 2 (zt16_14 h) := zTab.mk (ret := (some .boolean)) (bl := xk16_14) (by decide +kernel) (by decide +kernel) rfl rfl
def zt16_15 (h : Nat) : ZB := [(0, [zf_ald 0, zf_ald 0, zf_getI 16 24, zf_if .eq 16, zf_ild 1, zf_if .eq 16, zf_ic 1, zf_go 17], 16),
  (16, [zf_ic 0], 17),
  (17, [zf_putZ 16 24, zf_ret], 21)]
theorem zT16_15 (h : Nat) : zTab h 16 15 2 (zt16_15 h) := zTab.mk (ret := none) (bl := xk16_15) (by decide +kernel) (by decide +kernel) rfl rfl
def zt16_16 (h : Nat) : ZB := [(0, [zf_ald 0, zf_getI 16 21, zf_ald 0, zf_getI 16 19, zf_ic2 .ge 23, zf_ald 0, zf_getR 16 20, zf_ald 0, zf_getI 16 21, zf_aldI 100, zf_go 24], 23),
  (23, [zf_ic (-1)], 24),
  (24, [zf_reti], 25)]
theorem zT16_16 (h : Nat) : zTab h 16 16 1 (zt16_16 h) := zTab.mk (ret := (some .int)) (bl := xk16_16) (by decide +kernel) (by decide +kernel) rfl rfl
def zt16_17 (h : Nat) : ZB := [(0, [zf_ald 0, zf_inv h 16 16 0, zf_ic 45, zf_ic2 .ne 13, zf_ic 1, zf_go 14], 13),
  (13, [zf_ic 0], 14),
  (14, [zf_ist 1, zf_ild 1, zf_if .eq 37, zf_ald 0, zf_getI 16 23, zf_ic (-1), zf_ic2 .ne 37, zf_ald 0, zf_dup, zf_getI 16 21, zf_ic 1, zf_add, zf_putI 16 21], 37),
  (37, [zf_ald 0, zf_inv h 16 33 0, zf_lst 2, zf_ild 1, zf_if .eq 52, zf_lc 0, zf_lld 2, zf_lsub, zf_go 53], 52),
  (52, [zf_lld 2], 53),
  (53, [zf_retl], 54)]
theorem zT16_17 (h : Nat) : zTab h 16 17 4 (zt16_17 h) := zTab.mk (ret := (some .long)) (bl := xk16_17) (by decide +kernel) (by decide +kernel) rfl rfl
def zt16_18 (h : Nat) : ZB := [(0, [zf_ald 0, zf_ald 0, zf_ild 1, zf_inv h 16 14 1, zf_if .eq 13, zf_ic 0, zf_go 14], 13),
  (13, [zf_ic 1], 14),
  (14, [zf_putI 16 0, zf_ald 0, zf_getI 16 0, zf_if .eq 26, zf_ic 0, zf_reti], 26),
  (26, [zf_ald 0, zf_ild 1, zf_inv h 16 7 1, zf_ild 2, zf_if .lt 52, zf_ild 2, zf_ald 0, zf_getI 16 13, zf_ic2 .ge 52, zf_ald 0, zf_getR 16 15, zf_ild 2, zf_aldI 100, zf_go 53], 52),
  (52, [zf_ic (-1)], 53),
  (53, [zf_reti], 54)]
theorem zT16_18 (h : Nat) : zTab h 16 18 3 (zt16_18 h) := zTab.mk (ret := (some .int)) (bl := xk16_18) (by decide +kernel) (by decide +kernel) rfl rfl
def zt16_19 (h : Nat) : ZB := [(0, [zf_ic 1, zf_ald 0, zf_getI 16 13, zf_bit zshl, zf_ic 1, zf_sub, zf_ist 1, zf_ild 1, zf_ist 2], 11),
  (11, [zf_ild 2, zf_if .le 167, zf_ic 0, zf_ist 3], 17),
  (17, [zf_ild 3, zf_ald 0, zf_getI 16 13, zf_ic2 .ge 161, zf_ild 2, zf_ild 3, zf_bit zshr, zf_ic 1, zf_bit zand, zf_if .ne 36, zf_go 155], 36),
  (36, [zf_ild 2, zf_ild 1, zf_ic2 .ne 45, zf_lc 0, zf_go 48], 45),
  (45, [zf_lc (-1)], 48),
  (48, [zf_lst 4, zf_ic 0, zf_ist 6], 53),
  (53, [zf_ild 6, zf_ald 0, zf_getI 16 13, zf_ic2 .ge 142, zf_ild 2, zf_ild 6, zf_bit zshr, zf_ic 1, zf_bit zand, zf_ic 1, zf_ic2 .ne 75, zf_go 136], 75),
  (75, [zf_ald 0, zf_ald 0, zf_getR 16 14, zf_ild 3, zf_aldI 100, zf_ald 0, zf_getR 16 14, zf_ild 6, zf_aldI 100, zf_inv h 16 31 2, zf_ald 0, zf_getR 16 16, zf_ic 8, zf_ild 2, zf_ic 1, zf_ild 6, zf_bit zshl, zf_bit zor, zf_mul, zf_ild 6, zf_add, zf_aldL, zf_ladd, zf_lst 7, zf_lld 4, zf_lc 0, zf_lcmp, zf_if .lt 127, zf_lld 7, zf_lld 4, zf_lcmp, zf_if .ge 132], 127),
  (127, [zf_lld 7, zf_go 134], 132),
  (132, [zf_lld 4], 134),
  (134, [zf_lst 4], 136),
  (136, [zf_inc 6 1, zf_go 53], 142),
  (142, [zf_ald 0, zf_getR 16 16, zf_ic 8, zf_ild 2, zf_mul, zf_ild 3, zf_add, zf_lld 4, zf_astL], 155),
  (155, [zf_inc 3 1, zf_go 17], 161),
  (161, [zf_inc 2 (-1), zf_go 11], 167),
  (167, [zf_ic 0, zf_ist 2, zf_ic (-1), zf_ist 3, zf_ic 0, zf_ist 4], 174),
  (174, [zf_ild 4, zf_ald 0, zf_getI 16 13, zf_ic2 .ge 321, zf_ic (-1), zf_ist 5, zf_lc 0, zf_lst 6, zf_ic 0, zf_ist 8], 192),
  (192, [zf_ild 8, zf_ald 0, zf_getI 16 13, zf_ic2 .ge 291, zf_ild 2, zf_ild 8, zf_bit zshr, zf_ic 1, zf_bit zand, zf_ic 1, zf_ic2 .ne 214, zf_go 285], 214),
  (214, [zf_ald 0, zf_ild 3, zf_ic (-1), zf_ic2 .ne 224, zf_ic (-1), zf_go 230], 224),
  (224, [zf_ald 0, zf_getR 16 14, zf_ild 3, zf_aldI 100], 230),
  (230, [zf_ald 0, zf_getR 16 14, zf_ild 8, zf_aldI 100, zf_inv h 16 31 2, zf_ald 0, zf_getR 16 16, zf_ic 8, zf_ild 2, zf_ic 1, zf_ild 8, zf_bit zshl, zf_bit zor, zf_mul, zf_ild 8, zf_add, zf_aldL, zf_ladd, zf_lst 9, zf_ild 5, zf_ic (-1), zf_ic2 .eq 277, zf_lld 9, zf_lld 6, zf_lcmp, zf_if .lt 277, zf_go 285], 277),
  (277, [zf_ild 8, zf_ist 5, zf_lld 9, zf_lst 6], 285),
  (285, [zf_inc 8 1, zf_go 192], 291),
  (291, [zf_ald 0, zf_getR 16 15, zf_ild 4, zf_ald 0, zf_getR 16 14, zf_ild 5, zf_aldI 100, zf_astI, zf_ild 2, zf_ic 1, zf_ild 5, zf_bit zshl, zf_bit zor, zf_ist 2, zf_ild 5, zf_ist 3, zf_inc 4 1, zf_go 174], 321),
  (321, [zf_ret], 322)]
theorem zT16_19 (h : Nat) : zTab h 16 19 11 (zt16_19 h) := zTab.mk (ret := none) (bl := xk16_19) (by decide +kernel) (by decide +kernel) rfl rfl
def zt16_20 (h : Nat) : ZB := [(0, [zf_ic (-1), zf_ist 1, zf_ic 0, zf_ist 2], 4),
  (4, [zf_ild 2, zf_ald 0, zf_getI 16 13, zf_ic2 .ge 113, zf_ic (-1), zf_ist 3, zf_ic 0, zf_ist 4], 17),
  (17, [zf_ild 4, zf_ald 0, zf_getI 16 13, zf_ic2 .ge 81, zf_ald 0, zf_getR 16 14, zf_ild 4, zf_aldI 100, zf_ic (-1), zf_ic2 .ne 40, zf_go 75], 40),
  (40, [zf_ild 3, zf_ic (-1), zf_ic2 .eq 72, zf_ald 0, zf_ild 1, zf_ald 0, zf_getR 16 14, zf_ild 4, zf_aldI 100, zf_inv h 16 31 2, zf_ald 0, zf_ild 1, zf_ald 0, zf_getR 16 14, zf_ild 3, zf_aldI 100, zf_inv h 16 31 2, zf_lcmp, zf_if .ge 75], 72),
  (72, [zf_ild 4, zf_ist 3], 75),
  (75, [zf_inc 4 1, zf_go 17], 81),
  (81, [zf_ald 0, zf_getR 16 15, zf_ild 2, zf_ald 0, zf_getR 16 14, zf_ild 3, zf_aldI 100, zf_astI, zf_ald 0, zf_getR 16 14, zf_ild 3, zf_aldI 100, zf_ist 1, zf_ald 0, zf_getR 16 14, zf_ild 3, zf_ic (-1), zf_astI, zf_inc 2 1, zf_go 4], 113),
  (113, [zf_ret], 114)]
theorem zT16_20 (h : Nat) : zTab h 16 20 5 (zt16_20 h) := zTab.mk (ret := none) (bl := xk16_20) (by decide +kernel) (by decide +kernel) rfl rfl
def zt16_21 (h : Nat) : ZB := [(0, [zf_ald 0, zf_ic 0, zf_putI 16 0, zf_ald 0, zf_ic 0, zf_putI 16 21, zf_ald 0, zf_ic (-1), zf_putI 16 23, zf_ald 0, zf_ic 0, zf_putI 16 34, zf_ald 0, zf_ic 0, zf_putZ 16 35, zf_ald 0, zf_ic (-1), zf_putI 16 38, zf_ald 0, zf_getR 16 1, zf_ic 1, zf_ic 0, zf_astI, zf_ald 0, zf_getR 16 4, zf_ic 1, zf_ic 0, zf_astI], 44),
  (44, [zf_ald 0, zf_getI 16 23, zf_ic (-1), zf_ic2 .ne 70, zf_ald 0, zf_getI 16 21, zf_ald 0, zf_getI 16 19, zf_ic2 .ge 70, zf_ald 0, zf_inv h 16 25 0, zf_go 44], 70),
  (70, [zf_ald 0, zf_getI 16 23, zf_ic (-1), zf_ic2 .ne 94, zf_ald 0, zf_getI 16 34, zf_ic 3, zf_ic2 .ge 94, zf_ald 0, zf_ald 0, zf_getI 16 19, zf_putI 16 23], 94),
  (94, [zf_ald 0, zf_getI 16 23, zf_ic (-1), zf_ic2 .eq 109, zf_ic (-1), zf_ald 0, zf_getI 16 23, zf_sub, zf_reti], 109),
  (109, [zf_ald 0, zf_getR 16 1, zf_ic 0, zf_ald 0, zf_getR 16 1, zf_ic 1, zf_aldI 100, zf_astI, zf_ic 0, zf_ist 1], 123),
  (123, [zf_ild 1, zf_ic 10, zf_ic2 .ge 165, zf_ald 0, zf_getR 16 2, zf_ild 1, zf_ald 0, zf_getR 16 2, zf_ic 10, zf_ild 1, zf_add, zf_aldL, zf_astL, zf_ald 0, zf_getR 16 3, zf_ild 1, zf_ald 0, zf_getR 16 3, zf_ic 10, zf_ild 1, zf_add, zf_aldB, zf_astB, zf_inc 1 1, zf_go 123], 165),
  (165, [zf_ald 0, zf_getR 16 4, zf_ic 0, zf_ic 0, zf_astI, zf_ic 60, zf_ist 1], 175),
  (175, [zf_ild 1, zf_ic 60, zf_ald 0, zf_getR 16 4, zf_ic 1, zf_aldI 100, zf_add, zf_ic2 .ge 248, zf_ald 0, zf_ic 0, zf_ald 0, zf_getR 16 5, zf_ild 1, zf_aldI 100, zf_ald 0, zf_getR 16 6, zf_ild 1, zf_aldL, zf_ald 0, zf_getR 16 7, zf_ild 1, zf_aldL, zf_ald 0, zf_getR 16 8, zf_ild 1, zf_aldL, zf_ald 0, zf_getR 16 9, zf_ild 1, zf_aldL, zf_ald 0, zf_getR 16 10, zf_ild 1, zf_aldI 100, zf_ald 0, zf_getR 16 11, zf_ild 1, zf_aldI 100, zf_ald 0, zf_getR 16 12, zf_ild 1, zf_aldB, zf_inv h 16 0 9, zf_pop, zf_inc 1 1, zf_go 175], 248),
  (248, [zf_ald 0, zf_ic 0, zf_putI 16 19, zf_ald 0, zf_getR 16 4, zf_ic 0, zf_aldI 100, zf_reti], 260)]
theorem zT16_21 (h : Nat) : zTab h 16 21 2 (zt16_21 h) := zTab.mk (ret := (some .int)) (bl := xk16_21) (by decide +kernel) (by decide +kernel) rfl rfl
def zt16_22 (h : Nat) : ZB := [(0, [zf_ald 0, zf_inv h 16 16 0, zf_ist 1, zf_ild 1, zf_ic 76, zf_ic2 .ne 27, zf_ald 0, zf_getR 16 1, zf_ic 1, zf_aldI 100, zf_if .ne 27, zf_ald 0, zf_inv h 16 24 0, zf_go 93], 27),
  (27, [zf_ild 1, zf_ic 84, zf_ic2 .ne 47, zf_ald 0, zf_getI 16 35, zf_if .eq 47, zf_ald 0, zf_inv h 16 27 0, zf_go 93], 47),
  (47, [zf_ild 1, zf_ic 37, zf_ic2 .ne 85, zf_ald 0, zf_getI 16 35, zf_if .eq 85, zf_ald 0, zf_dup, zf_getI 16 21, zf_ic 1, zf_add, zf_putI 16 21, zf_ald 0, zf_inv h 16 5 0, zf_if .eq 93, zf_ald 0, zf_ic 2, zf_putI 16 34, zf_go 93], 85),
  (85, [zf_ald 0, zf_ald 0, zf_getI 16 21, zf_putI 16 23], 93),
  (93, [zf_ret], 94)]
theorem zT16_22 (h : Nat) : zTab h 16 22 2 (zt16_22 h) := zTab.mk (ret := none) (bl := xk16_22) (by decide +kernel) (by decide +kernel) rfl rfl
def zt16_23 (h : Nat) : ZB := [(0, [zf_ald 0, zf_dup, zf_getI 16 21, zf_ic 1, zf_add, zf_putI 16 21, zf_ald 0, zf_inv h 16 17 0, zf_lst 1, zf_ald 0, zf_ic 89, zf_inv h 16 6 1, zf_ald 0, zf_inv h 16 17 0, zf_lst 3, zf_ald 0, zf_getI 16 23, zf_ic (-1), zf_ic2 .ne 47, zf_ald 0, zf_inv h 16 16 0, zf_ic 71, zf_ic2 .ne 47, zf_ic 1, zf_go 48], 47),
  (47, [zf_ic 0], 48),
  (48, [zf_ist 5, zf_lld 1, zf_lst 6, zf_lld 3, zf_lst 8, zf_ild 5, zf_if .eq 130, zf_ald 0, zf_dup, zf_getI 16 21, zf_ic 1, zf_add, zf_putI 16 21, zf_ald 0, zf_ic 56, zf_inv h 16 6 1, zf_ald 0, zf_ic 53, zf_inv h 16 6 1, zf_ald 0, zf_ic 88, zf_inv h 16 6 1, zf_ald 0, zf_inv h 16 17 0, zf_lst 6, zf_ald 0, zf_ic 89, zf_inv h 16 6 1, zf_ald 0, zf_inv h 16 17 0, zf_lst 8, zf_ald 0, zf_lld 1, zf_lld 6, zf_lcmp, zf_if .ne 122, zf_lld 3, zf_lld 8, zf_lcmp, zf_if .eq 126], 122),
  (122, [zf_ic 1, zf_go 127], 126),
  (126, [zf_ic 0], 127),
  (127, [zf_inv h 16 15 1], 130),
  (130, [zf_ald 0, zf_lld 1, zf_lld 3, zf_inst h 16 13 2, zf_if .eq 164, zf_lld 6, zf_lld 8, zf_inst h 16 13 2, zf_if .eq 164, zf_ald 0, zf_getR 16 4, zf_ic 1, zf_aldI 100, zf_ic 60, zf_ic2 .ge 164, zf_ic 1, zf_go 165], 164),
  (164, [zf_ic 0], 165),
  (165, [zf_inv h 16 15 1, zf_ald 0, zf_inv h 16 5 0, zf_if .eq 220, zf_ald 0, zf_ic 1, zf_ald 0, zf_getI 16 38, zf_lld 1, zf_lld 3, zf_lld 6, zf_lld 8, zf_ild 5, zf_if .eq 196, zf_ic 0, zf_go 200], 196),
  (196, [zf_ald 0, zf_getI 16 36], 200),
  (200, [zf_ild 5, zf_if .eq 210, zf_ic 7, zf_go 214], 210),
  (210, [zf_ald 0, zf_getI 16 37], 214),
  (214, [zf_ild 5, zf_inv h 16 0 9, zf_pop], 220),
  (220, [zf_ret], 221)]
theorem zT16_23 (h : Nat) : zTab h 16 23 10 (zt16_23 h) := zTab.mk (ret := none) (bl := xk16_23) (by decide +kernel) (by decide +kernel) rfl rfl
def zt16_24 (h : Nat) : ZB := [(0, [zf_ald 0, zf_dup, zf_getI 16 21, zf_ic 1, zf_add, zf_putI 16 21, zf_ald 0, zf_inv h 16 33 0, zf_lst 1, zf_ald 0, zf_ic 44, zf_inv h 16 6 1, zf_ald 0, zf_inv h 16 33 0, zf_lst 3, zf_ald 0, zf_lld 1, zf_inst h 16 12 1, zf_if .eq 51, zf_lld 3, zf_inst h 16 12 1, zf_if .eq 51, zf_lld 1, zf_lld 3, zf_lcmp, zf_if .gt 51, zf_ic 1, zf_go 52], 51),
  (51, [zf_ic 0], 52),
  (52, [zf_inv h 16 15 1, zf_ald 0, zf_inv h 16 5 0, zf_if .ne 63, zf_ret], 63),
  (63, [zf_ald 0, zf_ic 1, zf_putZ 16 35, zf_ald 0, zf_lld 1, zf_l2i, zf_putI 16 36, zf_ald 0, zf_lld 3, zf_l2i, zf_putI 16 37, zf_ret], 81)]
theorem zT16_24 (h : Nat) : zTab h 16 24 5 (zt16_24 h) := zTab.mk (ret := none) (bl := xk16_24) (by decide +kernel) (by decide +kernel) rfl rfl
def zt16_25 (h : Nat) : ZB := [(0, [zf_ald 0, zf_ald 0, zf_getI 16 21, zf_putI 16 22, zf_ald 0, zf_ic 1, zf_putZ 16 24, zf_ald 0, zf_getI 16 34, zf_if .ne 53, zf_ald 0, zf_ic 77, zf_inv h 16 6 1, zf_ald 0, zf_ic 52, zf_inv h 16 6 1, zf_ald 0, zf_ic 56, zf_inv h 16 6 1, zf_ald 0, zf_inv h 16 5 0, zf_if .eq 91, zf_ald 0, zf_ic 1, zf_putI 16 34, zf_go 91], 53),
  (53, [zf_ald 0, zf_getI 16 34, zf_ic 1, zf_ic2 .ne 68, zf_ald 0, zf_inv h 16 22 0, zf_go 91], 68),
  (68, [zf_ald 0, zf_getI 16 34, zf_ic 2, zf_ic2 .ne 83, zf_ald 0, zf_inv h 16 26 0, zf_go 91], 83),
  (83, [zf_ald 0, zf_ald 0, zf_getI 16 21, zf_putI 16 23], 91),
  (91, [zf_ret], 92)]
theorem zT16_25 (h : Nat) : zTab h 16 25 1 (zt16_25 h) := zTab.mk (ret := none) (bl := xk16_25) (by decide +kernel) (by decide +kernel) rfl rfl
def zt16_26 (h : Nat) : ZB := [(0, [zf_ald 0, zf_inv h 16 16 0, zf_ist 1, zf_ild 1, zf_ic 84, zf_ic2 .ne 63, zf_ald 0, zf_dup, zf_getI 16 21, zf_ic 1, zf_add, zf_putI 16 21, zf_ald 0, zf_inv h 16 33 0, zf_lst 2, zf_ald 0, zf_lld 2, zf_ald 0, zf_getR 16 1, zf_ic 1, zf_aldI 100, zf_i2l, zf_lcmp, zf_if .ge 43, zf_ic 1, zf_go 44], 43),
  (43, [zf_ic 0], 44),
  (44, [zf_inv h 16 15 1, zf_ald 0, zf_inv h 16 5 0, zf_if .eq 60, zf_ald 0, zf_lld 2, zf_l2i, zf_putI 16 38], 60),
  (60, [zf_go 114], 63),
  (63, [zf_ild 1, zf_ic 88, zf_ic2 .ne 84, zf_ald 0, zf_getI 16 38, zf_ic (-1), zf_ic2 .eq 84, zf_ald 0, zf_inv h 16 23 0, zf_go 114], 84),
  (84, [zf_ald 0, zf_ic 77, zf_inv h 16 6 1, zf_ald 0, zf_ic 51, zf_inv h 16 6 1, zf_ald 0, zf_ic 48, zf_inv h 16 6 1, zf_ald 0, zf_inv h 16 5 0, zf_if .eq 114, zf_ald 0, zf_ic 3, zf_putI 16 34], 114),
  (114, [zf_ret], 115)]
theorem zT16_26 (h : Nat) : zTab h 16 26 4 (zt16_26 h) := zTab.mk (ret := none) (bl := xk16_26) (by decide +kernel) (by decide +kernel) rfl rfl
def zt16_27 (h : Nat) : ZB := [(0, [zf_ald 0, zf_dup, zf_getI 16 21, zf_ic 1, zf_add, zf_putI 16 21, zf_ald 0, zf_inv h 16 33 0, zf_lst 1, zf_ald 0, zf_ic 67, zf_inv h 16 6 1, zf_ald 0, zf_inv h 16 33 0, zf_lst 3, zf_ald 0, zf_inv h 16 16 0, zf_ic 80, zf_ic2 .ne 39, zf_ic 1, zf_go 40], 39),
  (39, [zf_ic 0], 40),
  (40, [zf_ist 5, zf_ald 0, zf_getI 16 23, zf_ic (-1), zf_ic2 .ne 77, zf_ild 5, zf_if .ne 64, zf_ald 0, zf_inv h 16 16 0, zf_ic 78, zf_ic2 .ne 77], 64),
  (64, [zf_ald 0, zf_dup, zf_getI 16 21, zf_ic 1, zf_add, zf_putI 16 21, zf_go 93], 77),
  (77, [zf_ald 0, zf_getI 16 23, zf_ic (-1), zf_ic2 .ne 93, zf_ald 0, zf_ald 0, zf_getI 16 21, zf_putI 16 23], 93),
  (93, [zf_ald 0, zf_lld 1, zf_ald 0, zf_getR 16 1, zf_ic 1, zf_aldI 100, zf_i2l, zf_lcmp, zf_if .ne 125, zf_lld 1, zf_lc 10, zf_lcmp, zf_if .ge 125, zf_lld 3, zf_inst h 16 10 1, zf_if .eq 125, zf_ic 1, zf_go 126], 125),
  (125, [zf_ic 0], 126),
  (126, [zf_inv h 16 15 1, zf_ald 0, zf_inv h 16 5 0, zf_if .eq 145, zf_ald 0, zf_ic 1, zf_lld 3, zf_ild 5, zf_inv h 16 1 3, zf_pop], 145),
  (145, [zf_ret], 146)]
theorem zT16_27 (h : Nat) : zTab h 16 27 6 (zt16_27 h) := zTab.mk (ret := none) (bl := xk16_27) (by decide +kernel) (by decide +kernel) rfl rfl
def zt16_28 (h : Nat) : ZB := [(0, [zf_lld 0, zf_lc 0, zf_lcmp, zf_if .ge 12, zf_lc 0, zf_lld 0, zf_lsub, zf_go 13], 12),
  (12, [zf_lld 0], 13),
  (13, [zf_retl], 14)]
theorem zT16_28 (h : Nat) : zTab h 16 28 2 (zt16_28 h) := zTab.mk (ret := (some .long)) (bl := xk16_28) (by decide +kernel) (by decide +kernel) rfl rfl
def zt16_29 (h : Nat) : ZB := [(0, [zf_ald 0, zf_lld 1, zf_inst h 16 10 1, zf_if .eq 12, zf_ic 0, zf_go 13], 12),
  (12, [zf_ic 1], 13),
  (13, [zf_putI 16 0, zf_ald 0, zf_getI 16 0, zf_if .eq 25, zf_ic 0, zf_reti], 25),
  (25, [zf_ald 0, zf_getR 16 1, zf_ic 0, zf_aldI 100, zf_ic 10, zf_ic2 .ne 40, zf_ic (-1), zf_go 47], 40),
  (40, [zf_ald 0, zf_ic 0, zf_lld 1, zf_ild 3, zf_inv h 16 1 3], 47),
  (47, [zf_reti], 48)]
theorem zT16_29 (h : Nat) : zTab h 16 29 4 (zt16_29 h) := zTab.mk (ret := (some .int)) (bl := xk16_29) (by decide +kernel) (by decide +kernel) rfl rfl
def zt16_30 (h : Nat) : ZB := [(0, [zf_ald 0, zf_ic 0, zf_putI 16 0, zf_ild 1, zf_ic 10, zf_ic2 .eq 23, zf_ild 1, zf_ic 32, zf_ic2 .lt 33, zf_ild 1, zf_ic 126, zf_ic2 .gt 33], 23),
  (23, [zf_ald 0, zf_getI 16 19, zf_ic 2000, zf_ic2 .ne 35], 33),
  (33, [zf_ic 0, zf_retz], 35),
  (35, [zf_ald 0, zf_getR 16 20, zf_ald 0, zf_getI 16 19, zf_ild 1, zf_astI, zf_ald 0, zf_dup, zf_getI 16 19, zf_ic 1, zf_add, zf_putI 16 19, zf_ic 1, zf_retz], 57)]
theorem zT16_30 (h : Nat) : zTab h 16 30 2 (zt16_30 h) := zTab.mk (ret := (some .boolean)) (bl := xk16_30) (by decide +kernel) (by decide +kernel) rfl rfl
def zt16_31 (h : Nat) : ZB := [(0, [zf_ild 1, zf_ic (-1), zf_ic2 .ne 25, zf_lc 0, zf_lc 0, zf_ald 0, zf_getR 16 6, zf_ild 2, zf_aldL, zf_ald 0, zf_getR 16 7, zf_ild 2, zf_aldL, zf_inst h 16 32 4, zf_go 52], 25),
  (25, [zf_ald 0, zf_getR 16 8, zf_ild 1, zf_aldL, zf_ald 0, zf_getR 16 9, zf_ild 1, zf_aldL, zf_ald 0, zf_getR 16 6, zf_ild 2, zf_aldL, zf_ald 0, zf_getR 16 7, zf_ild 2, zf_aldL, zf_inst h 16 32 4], 52),
  (52, [zf_retl], 53)]
theorem zT16_31 (h : Nat) : zTab h 16 31 3 (zt16_31 h) := zTab.mk (ret := (some .long)) (bl := xk16_31) (by decide +kernel) (by decide +kernel) rfl rfl
def zt16_32 (h : Nat) : ZB := [(0, [zf_lld 0, zf_lld 4, zf_lsub, zf_inst h 16 28 1, zf_lst 8, zf_lld 2, zf_lld 6, zf_lsub, zf_inst h 16 28 1, zf_lst 10, zf_lld 8, zf_lld 10, zf_lcmp, zf_if .le 31, zf_lld 8, zf_go 33], 31),
  (31, [zf_lld 10], 33),
  (33, [zf_retl], 34)]
theorem zT16_32 (h : Nat) : zTab h 16 32 12 (zt16_32 h) := zTab.mk (ret := (some .long)) (bl := xk16_32) (by decide +kernel) (by decide +kernel) rfl rfl
def zt16_33 (h : Nat) : ZB := [(0, [zf_lc 0, zf_lst 1, zf_ic 0, zf_ist 3], 4),
  (4, [zf_ald 0, zf_getI 16 23, zf_ic (-1), zf_ic2 .ne 57, zf_ild 3, zf_ic 7, zf_ic2 .ge 57, zf_ald 0, zf_inv h 16 11 0, zf_if .eq 57, zf_lc 10, zf_lld 1, zf_lmul, zf_ald 0, zf_inv h 16 16 0, zf_i2l, zf_ladd, zf_lc 48, zf_lsub, zf_lst 1, zf_inc 3 1, zf_ald 0, zf_dup, zf_getI 16 21, zf_ic 1, zf_add, zf_putI 16 21, zf_go 4], 57),
  (57, [zf_ald 0, zf_getI 16 23, zf_ic (-1), zf_ic2 .ne 84, zf_ild 3, zf_if .eq 76, zf_ald 0, zf_inv h 16 11 0, zf_if .eq 84], 76),
  (76, [zf_ald 0, zf_ald 0, zf_getI 16 21, zf_putI 16 23], 84),
  (84, [zf_lld 1, zf_retl], 86)]
theorem zT16_33 (h : Nat) : zTab h 16 33 4 (zt16_33 h) := zTab.mk (ret := (some .long)) (bl := xk16_33) (by decide +kernel) (by decide +kernel) rfl rfl
