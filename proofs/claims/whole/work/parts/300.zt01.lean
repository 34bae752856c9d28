/-! TABLES of what methods of class 1 ask -/
def zt1_0 (h : Nat) : ZB := [(0, [zf_ald 0, zf_getR 1 1, zf_ild 2, zf_ic 3, zf_inv h 7 1 2, zf_ist 4, zf_ald 0, zf_ild 2, zf_inv h 1 36 1, zf_ic 16, zf_mul, zf_ild 4, zf_ic 16, zf_rem, zf_add, zf_ic 16, zf_mul, zf_ild 4, zf_ic 16, zf_div, zf_add, zf_ist 5, zf_ild 5, zf_ic 5, zf_mul, zf_ild 1, zf_add, zf_ic 60, zf_mul, zf_ild 2, zf_add, zf_ist 5, zf_ald 0, zf_getI 1 11, zf_ic 1950, zf_ic2 .ge 87, zf_ald 0, zf_getR 1 10, zf_ald 0, zf_getI 1 11, zf_ild 5, zf_ic 61, zf_mul, zf_ild 3, zf_add, zf_ic 1, zf_add, zf_astI, zf_ald 0, zf_dup, zf_getI 1 11, zf_ic 1, zf_add, zf_putI 1 11], 87),
  (87, [zf_ret], 88)]
theorem zT1_0 (h : Nat) : zTab h 1 0 6 (zt1_0 h) := zTab.mk (ret := none) (bl := xk1_0) (by decide +kernel) (by decide +kernel) rfl rfl
def zt1_1 (h : Nat) : ZB := [(0, [zf_ic 0, zf_ist 3], 2),
  (2, [zf_ild 3, zf_ic 1, zf_add, zf_ald 1, zf_getI 0 3, zf_ic2 .ge 134, zf_ic 0, zf_ist 4], 15),
  (15, [zf_ild 4, zf_ald 1, zf_getI 0 2, zf_ic2 .ge 128, zf_ic 0, zf_ist 5], 27),
  (27, [zf_ild 5, zf_ald 1, zf_getI 0 1, zf_ic2 .ge 122, zf_ald 0, zf_getI 1 2, zf_if .ne 122, zf_ald 1, zf_ild 2, zf_ild 3, zf_ild 5, zf_ild 4, zf_inst h 1 24 5, zf_if .eq 116, zf_ald 1, zf_ild 2, zf_ild 3, zf_ic 1, zf_add, zf_ild 5, zf_ild 4, zf_inst h 1 24 5, zf_if .eq 116, zf_ic 16, zf_ild 4, zf_mul, zf_ild 5, zf_add, zf_ist 6, zf_ald 0, zf_ic 2, zf_ild 2, zf_ild 3, zf_ild 6, zf_ild 6, zf_inv h 1 4 5, zf_ald 0, zf_ic 2, zf_ild 2, zf_ild 3, zf_ic 1, zf_add, zf_ild 6, zf_ild 6, zf_inv h 1 4 5, zf_ald 0, zf_ic 3, zf_ild 2, zf_ild 3, zf_ild 6, zf_ild 6, zf_inv h 1 4 5], 116),
  (116, [zf_inc 5 1, zf_go 27], 122),
  (122, [zf_inc 4 1, zf_go 15], 128),
  (128, [zf_inc 3 1, zf_go 2], 134),
  (134, [zf_ret], 135)]
theorem zT1_1 (h : Nat) : zTab h 1 1 7 (zt1_1 h) := zTab.mk (ret := none) (bl := xk1_1) (by decide +kernel) (by decide +kernel) rfl rfl
def zt1_2 (h : Nat) : ZB := [(0, [zf_ild 3, zf_if .eq 11, zf_ald 1, zf_getI 0 2, zf_go 15], 11),
  (11, [zf_ald 1, zf_getI 0 1], 15),
  (15, [zf_ist 4, zf_ic 0, zf_ist 5], 20),
  (20, [zf_ild 5, zf_ald 1, zf_getI 0 3, zf_ic2 .ge 69, zf_ic 0, zf_ist 6], 32),
  (32, [zf_ild 6, zf_ild 4, zf_ic2 .ge 63, zf_ald 0, zf_getI 1 2, zf_if .ne 63, zf_ald 0, zf_ald 1, zf_ild 2, zf_ild 5, zf_ild 6, zf_ild 3, zf_inv h 1 3 5, zf_inc 6 1, zf_go 32], 63),
  (63, [zf_inc 5 1, zf_go 20], 69),
  (69, [zf_ret], 70)]
theorem zT1_2 (h : Nat) : zTab h 1 2 7 (zt1_2 h) := zTab.mk (ret := none) (bl := xk1_2) (by decide +kernel) (by decide +kernel) rfl rfl
def zt1_3 (h : Nat) : ZB := [(0, [zf_ild 5, zf_if .eq 12, zf_ald 1, zf_getI 0 1, zf_go 16], 12),
  (12, [zf_ald 1, zf_getI 0 2], 16),
  (16, [zf_ist 6, zf_ic (-1), zf_ist 7, zf_ic (-1), zf_ist 8, zf_ic 0, zf_ist 9, zf_ic 0, zf_ist 10], 30),
  (30, [zf_ild 10, zf_ild 6, zf_ic2 .gt 136, zf_ild 5, zf_if .eq 54, zf_ald 1, zf_ild 3, zf_ild 10, zf_ild 4, zf_inv h 0 5 3, zf_go 63], 54),
  (54, [zf_ald 1, zf_ild 3, zf_ild 4, zf_ild 10, zf_inv h 0 5 3], 63),
  (63, [zf_ist 11, zf_ild 11, zf_ic (-1), zf_ic2 .eq 110, zf_ald 1, zf_getR 0 8, zf_ild 11, zf_aldI 100, zf_ild 2, zf_ic2 .ne 110, zf_ald 1, zf_ild 11, zf_inst h 1 45 2, zf_ist 8, zf_ild 9, zf_if .ne 100, zf_ild 8, zf_go 102], 100),
  (100, [zf_ild 7], 102),
  (102, [zf_ist 7, zf_inc 9 1, zf_go 130], 110),
  (110, [zf_ild 9, zf_ic 1, zf_ic2 .le 127, zf_ald 0, zf_ic 0, zf_ild 2, zf_ild 3, zf_ild 7, zf_ild 8, zf_inv h 1 4 5], 127),
  (127, [zf_ic 0, zf_ist 9], 130),
  (130, [zf_inc 10 1, zf_go 30], 136),
  (136, [zf_ret], 137)]
theorem zT1_3 (h : Nat) : zTab h 1 3 12 (zt1_3 h) := zTab.mk (ret := none) (bl := xk1_3) (by decide +kernel) (by decide +kernel) rfl rfl
def zt1_4 (h : Nat) : ZB := [(0, [zf_ald 0, zf_getR 1 1, zf_ild 1, zf_ild 2, zf_ild 3, zf_ild 4, zf_ild 5, zf_inv h 7 0 5, zf_ic (-1), zf_ic2 .ne 23, zf_ald 0, zf_ic 1, zf_putZ 1 2], 23),
  (23, [zf_ret], 24)]
theorem zT1_4 (h : Nat) : zTab h 1 4 6 (zt1_4 h) := zTab.mk (ret := none) (bl := xk1_4) (by decide +kernel) (by decide +kernel) rfl rfl
def zt1_5 (h : Nat) : ZB := [(0, [zf_ic 0, zf_ist 2, zf_ic 0, zf_ist 3], 4),
  (4, [zf_ild 3, zf_ald 0, zf_getR 1 8, zf_getI 7 2, zf_ic2 .ge 37, zf_ald 0, zf_getR 1 8, zf_ild 3, zf_ic 0, zf_inv h 7 1 2, zf_ild 1, zf_ic2 .ne 31, zf_inc 2 1], 31),
  (31, [zf_inc 3 1, zf_go 4], 37),
  (37, [zf_ild 2, zf_reti], 39)]
theorem zT1_5 (h : Nat) : zTab h 1 5 4 (zt1_5 h) := zTab.mk (ret := (some .int)) (bl := xk1_5) (by decide +kernel) (by decide +kernel) rfl rfl
def zt1_6 (h : Nat) : ZB := [(0, [zf_ild 2, zf_ist 4, zf_ic 0, zf_ist 5], 6),
  (6, [zf_ild 5, zf_ald 0, zf_getR 1 8, zf_getI 7 2, zf_ic2 .ge 76, zf_ild 2, zf_if .lt 76, zf_ald 0, zf_getR 1 8, zf_ild 5, zf_ic 0, zf_inv h 7 1 2, zf_ild 1, zf_ic2 .ne 70, zf_ild 4, zf_if .ne 67, zf_ild 3, zf_if .eq 50, zf_ild 3, zf_ic 1, zf_ic2 .ne 65], 50),
  (50, [zf_ald 0, zf_getR 1 8, zf_ild 5, zf_ic 1, zf_ild 3, zf_add, zf_inv h 7 1 2, zf_go 66], 65),
  (65, [zf_ic (-1)], 66),
  (66, [zf_reti], 67),
  (67, [zf_inc 4 (-1)], 70),
  (70, [zf_inc 5 1, zf_go 6], 76),
  (76, [zf_ic (-1), zf_reti], 78)]
theorem zT1_6 (h : Nat) : zTab h 1 6 6 (zt1_6 h) := zTab.mk (ret := (some .int)) (bl := xk1_6) (by decide +kernel) (by decide +kernel) rfl rfl
def zt1_7 (h : Nat) : ZB := [(0, [zf_ald 0, zf_getR 1 1, zf_ild 1, zf_ic 0, zf_inv h 7 1 2, zf_reti], 10)]
theorem zT1_7 (h : Nat) : zTab h 1 7 2 (zt1_7 h) := zTab.mk (ret := (some .int)) (bl := xk1_7) (by decide +kernel) (by decide +kernel) rfl rfl
def zt1_8 (h : Nat) : ZB := [(0, [zf_ild 1, zf_if .lt 21, zf_ild 1, zf_ald 0, zf_getI 1 6, zf_ic2 .ge 21, zf_ald 0, zf_getR 1 7, zf_ild 1, zf_aldI 100, zf_go 22], 21),
  (21, [zf_ic (-1)], 22),
  (22, [zf_reti], 23)]
theorem zT1_8 (h : Nat) : zTab h 1 8 2 (zt1_8 h) := zTab.mk (ret := (some .int)) (bl := xk1_8) (by decide +kernel) (by decide +kernel) rfl rfl
def zt1_9 (h : Nat) : ZB := [(0, [zf_ic 0, zf_ist 2, zf_ic 0, zf_ist 3], 4),
  (4, [zf_ild 3, zf_ald 0, zf_getI 1 13, zf_ic2 .ge 35, zf_ild 2, zf_ald 0, zf_ild 3, zf_ild 1, zf_inv h 1 32 2, zf_if .eq 26, zf_ic 1, zf_go 27], 26),
  (26, [zf_ic 0], 27),
  (27, [zf_add, zf_ist 2, zf_inc 3 1, zf_go 4], 35),
  (35, [zf_ild 2, zf_reti], 37)]
theorem zT1_9 (h : Nat) : zTab h 1 9 4 (zt1_9 h) := zTab.mk (ret := (some .int)) (bl := xk1_9) (by decide +kernel) (by decide +kernel) rfl rfl
def zt1_10 (h : Nat) : ZB := [(0, [zf_ald 0, zf_ic 0, zf_putI 1 9, zf_ic 0, zf_ist 1], 7),
  (7, [zf_ild 1, zf_ald 0, zf_getI 1 6, zf_ic2 .ge 100, zf_ic (-1), zf_ist 2, zf_ic 0, zf_ist 3, zf_ic 0, zf_ist 4], 22),
  (22, [zf_ild 4, zf_ald 0, zf_getI 1 4, zf_ic2 .ge 80, zf_ald 0, zf_getR 1 7, zf_ild 4, zf_aldI 100, zf_ild 1, zf_ic2 .ne 74, zf_ild 3, zf_if .ne 61, zf_ild 2, zf_ic (-1), zf_ic2 .eq 65, zf_ild 2, zf_ald 0, zf_ild 4, zf_inv h 1 39 1, zf_ic2 .eq 65], 61),
  (61, [zf_ic 1, zf_go 66], 65),
  (65, [zf_ic 0], 66),
  (66, [zf_ist 3, zf_ald 0, zf_ild 4, zf_inv h 1 39 1, zf_ist 2], 74),
  (74, [zf_inc 4 1, zf_go 22], 80),
  (80, [zf_ild 3, zf_if .eq 94, zf_ald 0, zf_dup, zf_getI 1 9, zf_ic 1, zf_add, zf_putI 1 9], 94),
  (94, [zf_inc 1 1, zf_go 7], 100),
  (100, [zf_ret], 101)]
theorem zT1_10 (h : Nat) : zTab h 1 10 5 (zt1_10 h) := zTab.mk (ret := none) (bl := xk1_10) (by decide +kernel) (by decide +kernel) rfl rfl
def zt1_11 (h : Nat) : ZB := [(0, [zf_ild 1, zf_if .lt 14, zf_ild 1, zf_ic 7, zf_ic2 .ge 14, zf_ild 2, zf_if .ge 16], 14),
  (14, [zf_ic (-1), zf_reti], 16),
  (16, [zf_ald 0, zf_ild 1, zf_inv h 1 56 1, zf_ild 2, zf_ald 0, zf_getI 1 17, zf_ic2 .ge 38, zf_ald 0, zf_getR 1 16, zf_ild 2, zf_aldI 104, zf_go 39], 38),
  (38, [zf_ic (-1)], 39),
  (39, [zf_reti], 40)]
theorem zT1_11 (h : Nat) : zTab h 1 11 3 (zt1_11 h) := zTab.mk (ret := (some .int)) (bl := xk1_11) (by decide +kernel) (by decide +kernel) rfl rfl
def zt1_12 (h : Nat) : ZB := [(0, [zf_ald 0, zf_getR 1 1, zf_ild 1, zf_ild 3, zf_if .eq 13, zf_ic 4, zf_go 14], 13),
  (13, [zf_ic 3], 14),
  (14, [zf_inv h 7 1 2, zf_ist 4, zf_ic 1000, zf_ild 2, zf_if .eq 34, zf_ild 4, zf_ic 16, zf_rem, zf_go 39], 34),
  (34, [zf_ild 4, zf_ic 16, zf_div], 39),
  (39, [zf_mul, zf_reti], 41)]
theorem zT1_12 (h : Nat) : zTab h 1 12 5 (zt1_12 h) := zTab.mk (ret := (some .int)) (bl := xk1_12) (by decide +kernel) (by decide +kernel) rfl rfl
def zt1_13 (h : Nat) : ZB := [(0, [zf_ic 0, zf_ist 2, zf_ic 10000, zf_ist 3], 6),
  (6, [zf_ild 3, zf_if .le 81, zf_ald 0, zf_getI 1 17, zf_ic 800, zf_ic2 .ge 81, zf_ild 2, zf_if .ne 34, zf_ild 1, zf_ild 3, zf_ic2 .ge 34, zf_ild 3, zf_ic 1, zf_ic2 .ne 38], 34),
  (34, [zf_ic 1, zf_go 39], 38),
  (38, [zf_ic 0], 39),
  (39, [zf_ist 2, zf_ild 2, zf_if .eq 73, zf_ald 0, zf_getR 1 16, zf_ald 0, zf_getI 1 17, zf_ic 48, zf_ild 1, zf_ild 3, zf_div, zf_ic 10, zf_rem, zf_add, zf_cv zi2c, zf_astC, zf_ald 0, zf_dup, zf_getI 1 17, zf_ic 1, zf_add, zf_putI 1 17], 73),
  (73, [zf_ild 3, zf_ic 10, zf_div, zf_ist 3, zf_go 6], 81),
  (81, [zf_ret], 82)]
theorem zT1_13 (h : Nat) : zTab h 1 13 4 (zt1_13 h) := zTab.mk (ret := none) (bl := xk1_13) (by decide +kernel) (by decide +kernel) rfl rfl
def zt1_14 (h : Nat) : ZB := [(0, [zf_ic 0, zf_ist 2], 2),
  (2, [zf_ild 2, zf_ald 1, zf_slen, zf_ic2 .ge 50, zf_ald 0, zf_getI 1 17, zf_ic 800, zf_ic2 .ge 50, zf_ald 0, zf_getR 1 16, zf_ald 0, zf_getI 1 17, zf_ald 1, zf_ild 2, zf_schar, zf_astC, zf_ald 0, zf_dup, zf_getI 1 17, zf_ic 1, zf_add, zf_putI 1 17, zf_inc 2 1, zf_go 2], 50),
  (50, [zf_ret], 51)]
theorem zT1_14 (h : Nat) : zTab h 1 14 3 (zt1_14 h) := zTab.mk (ret := none) (bl := xk1_14) (by decide +kernel) (by decide +kernel) rfl rfl
def zt1_15 (h : Nat) : ZB := [(0, [zf_ald 0, zf_ild 1, zf_ic 1, zf_ild 2, zf_inv h 1 12 3, zf_ist 3, zf_ald 0, zf_ild 1, zf_ic 0, zf_ild 2, zf_inv h 1 12 3, zf_ist 4, zf_ic 0, zf_ist 5, zf_ic 0, zf_ist 6], 23),
  (23, [zf_ild 6, zf_ald 0, zf_getR 1 1, zf_getI 7 2, zf_ic2 .ge 187, zf_ild 5, zf_if .ne 187, zf_ild 6, zf_ild 1, zf_ic2 .eq 87, zf_ald 0, zf_ild 6, zf_inv h 1 28 1, zf_if .eq 87, zf_ald 0, zf_ild 6, zf_inv h 1 39 1, zf_ald 0, zf_ild 1, zf_inv h 1 39 1, zf_ic2 .ne 87, zf_ald 0, zf_ild 6, zf_inv h 1 36 1, zf_ald 0, zf_ild 1, zf_inv h 1 36 1, zf_ic2 .ne 87, zf_ic 1, zf_go 88], 87),
  (87, [zf_ic 0], 88),
  (88, [zf_ist 7, zf_ild 3, zf_ild 3, zf_ald 0, zf_ild 6, zf_ic 1, zf_ic 0, zf_inv h 1 12 3, zf_ald 0, zf_ild 6, zf_ic 1, zf_ic 1, zf_inv h 1 12 3, zf_ic 0, zf_inst h 1 22 5, zf_lst 8, zf_ild 4, zf_ild 4, zf_ald 0, zf_ild 6, zf_ic 0, zf_ic 0, zf_inv h 1 12 3, zf_ald 0, zf_ild 6, zf_ic 0, zf_ic 1, zf_inv h 1 12 3, zf_ic 0, zf_inst h 1 22 5, zf_lst 10, zf_ald 0, zf_ild 6, zf_inv h 1 46 1, zf_i2l, zf_lst 12, zf_ild 7, zf_if .eq 178, zf_lld 8, zf_lld 8, zf_lmul, zf_lld 10, zf_lld 10, zf_lmul, zf_ladd, zf_lld 12, zf_lld 12, zf_lmul, zf_lcmp, zf_if .gt 178, zf_ic 1, zf_go 179], 178),
  (178, [zf_ic 0], 179),
  (179, [zf_ist 5, zf_inc 6 1, zf_go 23], 187),
  (187, [zf_ild 5, zf_retz], 190)]
theorem zT1_15 (h : Nat) : zTab h 1 15 14 (zt1_15 h) := zTab.mk (ret := (some .boolean)) (bl := xk1_15) (by decide +kernel) (by decide +kernel) rfl rfl
def zt1_16 (h : Nat) : ZB := [(0, [zf_ild 1, zf_if .lt 12, zf_ild 1, zf_ald 0, zf_getI 1 11, zf_ic2 .lt 14], 12),
  (12, [zf_ic (-1), zf_reti], 14),
  (14, [zf_ald 0, zf_getR 1 10, zf_ild 1, zf_aldI 100, zf_ic 61, zf_rem, zf_ic 1, zf_sub, zf_ist 3, zf_ald 0, zf_getR 1 10, zf_ild 1, zf_aldI 100, zf_ic 61, zf_div, zf_ist 4, zf_ild 2, zf_sw 80 0 2 [64, 72, 78]], 64),
  (64, [zf_ild 4, zf_ic 60, zf_div, zf_ic 5, zf_rem, zf_reti], 72),
  (72, [zf_ild 4, zf_ic 60, zf_rem, zf_reti], 78),
  (78, [zf_ild 3, zf_reti], 80),
  (80, [zf_ic (-1), zf_reti], 82)]
theorem zT1_16 (h : Nat) : zTab h 1 16 5 (zt1_16 h) := zTab.mk (ret := (some .int)) (bl := xk1_16) (by decide +kernel) (by decide +kernel) rfl rfl
def zt1_17 (h : Nat) : ZB := [(0, [zf_ald 0, zf_getR 1 8, zf_ic 0, zf_putI 7 2, zf_ic 0, zf_ist 1], 10),
  (10, [zf_ild 1, zf_ic 12, zf_ic2 .ge 128, zf_ic 0, zf_ist 2], 18),
  (18, [zf_ild 2, zf_ald 0, zf_getI 1 4, zf_ic2 .ge 44, zf_ald 0, zf_getR 1 14, zf_ild 2, zf_ald 0, zf_getR 1 7, zf_ild 2, zf_aldI 100, zf_astI, zf_inc 2 1, zf_go 18], 44),
  (44, [zf_ald 0, zf_ild 1, zf_inv h 1 38 1, zf_ist 2, zf_ic 0, zf_ist 3], 52),
  (52, [zf_ild 3, zf_ald 0, zf_getI 1 4, zf_ic2 .ge 122, zf_ild 2, zf_ic (-1), zf_ic2 .eq 122, zf_ild 2, zf_ic 60, zf_div, zf_ist 4, zf_ild 2, zf_ic 60, zf_rem, zf_ist 5, zf_ald 0, zf_getR 1 8, zf_ild 1, zf_ild 4, zf_ild 5, zf_ic 0, zf_ic 0, zf_inv h 7 0 5, zf_pop, zf_ald 0, zf_ald 0, zf_getR 1 14, zf_ild 4, zf_aldI 100, zf_ald 0, zf_getR 1 14, zf_ild 5, zf_aldI 100, zf_inv h 1 35 2, zf_ald 0, zf_ild 1, zf_inv h 1 38 1, zf_ist 2, zf_inc 3 1, zf_go 52], 122),
  (122, [zf_inc 1 1, zf_go 10], 128),
  (128, [zf_ret], 129)]
theorem zT1_17 (h : Nat) : zTab h 1 17 6 (zt1_17 h) := zTab.mk (ret := none) (bl := xk1_17) (by decide +kernel) (by decide +kernel) rfl rfl
def zt1_18 (h : Nat) : ZB := [(0, [zf_ald 0, zf_ic 0, zf_putI 1 11, zf_ic 0, zf_ist 2], 7),
  (7, [zf_ild 2, zf_ald 0, zf_getR 1 1, zf_getI 7 2, zf_ic2 .ge 58, zf_ald 0, zf_ild 2, zf_ald 1, zf_inv h 1 19 2, zf_ild 2, zf_ic 1, zf_add, zf_ist 3], 28),
  (28, [zf_ild 3, zf_ald 0, zf_getR 1 1, zf_getI 7 2, zf_ic2 .ge 52, zf_ald 0, zf_ild 2, zf_ild 3, zf_ald 1, zf_inv h 1 20 3, zf_inc 3 1, zf_go 28], 52),
  (52, [zf_inc 2 1, zf_go 7], 58),
  (58, [zf_ald 0, zf_getR 1 10, zf_ald 0, zf_getI 1 11, zf_inst h 11 49 2, zf_ret], 70)]
theorem zT1_18 (h : Nat) : zTab h 1 18 4 (zt1_18 h) := zTab.mk (ret := none) (bl := xk1_18) (by decide +kernel) (by decide +kernel) rfl rfl
def zt1_19 (h : Nat) : ZB := [(0, [zf_ald 0, zf_ild 1, zf_inv h 1 7 1, zf_ist 3, zf_ald 2, zf_ic 1, zf_ild 3, zf_ic (-1), zf_inst h 1 54 4, zf_ist 4, zf_ald 0, zf_ild 1, zf_inv h 1 28 1, zf_if .eq 48, zf_ild 4, zf_ic (-1), zf_ic2 .eq 48, zf_ic 2, zf_ald 0, zf_ild 1, zf_inv h 1 46 1, zf_mul, zf_ild 4, zf_ic2 .ge 48, zf_ald 0, zf_ic 1, zf_ild 1, zf_ic (-1), zf_inv h 1 0 3], 48),
  (48, [zf_ald 2, zf_ic 3, zf_ild 3, zf_ic (-1), zf_inst h 1 54 4, zf_ist 5, zf_ild 3, zf_ic 3, zf_ic2 .ne 85, zf_ild 5, zf_ic (-1), zf_ic2 .eq 85, zf_ald 0, zf_ild 1, zf_ild 5, zf_inv h 1 23 2, zf_if .ne 85, zf_ald 0, zf_ic 3, zf_ild 1, zf_ic (-1), zf_inv h 1 0 3], 85),
  (85, [zf_ald 2, zf_ic 4, zf_ild 3, zf_ic (-1), zf_inst h 1 54 4, zf_ic (-1), zf_ic2 .eq 100, zf_ic 1, zf_go 101], 100),
  (100, [zf_ic 0], 101),
  (101, [zf_ist 6, zf_ild 3, zf_if .ne 137, zf_ild 6, zf_if .eq 137, zf_ald 0, zf_ild 1, zf_ic 0, zf_inv h 1 15 2, zf_if .eq 130, zf_ald 0, zf_ild 1, zf_ic 1, zf_inv h 1 15 2, zf_if .ne 137], 130),
  (130, [zf_ald 0, zf_ic 4, zf_ild 1, zf_ic (-1), zf_inv h 1 0 3], 137),
  (137, [zf_ret], 138)]
theorem zT1_19 (h : Nat) : zTab h 1 19 7 (zt1_19 h) := zTab.mk (ret := none) (bl := xk1_19) (by decide +kernel) (by decide +kernel) rfl rfl
def zt1_20 (h : Nat) : ZB := [(0, [zf_ald 0, zf_ild 1, zf_inv h 1 28 1, zf_if .eq 20, zf_ald 0, zf_ild 2, zf_inv h 1 28 1, zf_if .eq 20, zf_ic 1, zf_go 21], 20),
  (20, [zf_ic 0], 21),
  (21, [zf_ist 4, zf_ild 4, zf_if .eq 58, zf_ald 0, zf_ild 1, zf_inv h 1 36 1, zf_ald 0, zf_ild 2, zf_inv h 1 36 1, zf_ic2 .ne 58, zf_ald 0, zf_ild 1, zf_inv h 1 39 1, zf_ald 0, zf_ild 2, zf_inv h 1 39 1, zf_ic2 .eq 58, zf_ic 1, zf_go 59], 58),
  (58, [zf_ic 0], 59),
  (59, [zf_ist 5, zf_ald 0, zf_ild 1, zf_inv h 1 28 1, zf_if .ne 81, zf_ald 0, zf_ild 2, zf_inv h 1 28 1, zf_if .ne 81, zf_ic 1, zf_go 82], 81),
  (81, [zf_ic 0], 82),
  (82, [zf_ist 6, zf_ild 5, zf_if .eq 120, zf_ald 0, zf_ild 1, zf_ild 2, zf_ald 3, zf_ic 0, zf_ald 0, zf_ild 1, zf_inv h 1 7 1, zf_ald 0, zf_ild 2, zf_inv h 1 7 1, zf_inst h 1 54 4, zf_inv h 1 33 3, zf_if .eq 120, zf_ald 0, zf_ic 0, zf_ild 1, zf_ild 2, zf_inv h 1 0 3], 120),
  (120, [zf_ild 6, zf_if .eq 156, zf_ald 0, zf_ild 1, zf_ild 2, zf_ald 3, zf_ic 2, zf_ald 0, zf_ild 1, zf_inv h 1 7 1, zf_ald 0, zf_ild 2, zf_inv h 1 7 1, zf_inst h 1 54 4, zf_inv h 1 33 3, zf_if .eq 156, zf_ald 0, zf_ic 2, zf_ild 1, zf_ild 2, zf_inv h 1 0 3], 156),
  (156, [zf_ret], 157)]
theorem zT1_20 (h : Nat) : zTab h 1 20 7 (zt1_20 h) := zTab.mk (ret := none) (bl := xk1_20) (by decide +kernel) (by decide +kernel) rfl rfl
def zt1_21 (h : Nat) : ZB := [(0, [zf_ald 0, zf_ic 0, zf_putI 1 6, zf_ic 0, zf_ist 1], 7),
  (7, [zf_ild 1, zf_ald 0, zf_getR 1 1, zf_getI 7 2, zf_ic2 .ge 66, zf_ald 0, zf_ild 1, zf_inv h 1 7 1, zf_ic 2, zf_ic2 .eq 60, zf_ald 0, zf_getR 1 5, zf_ald 0, zf_getI 1 6, zf_ild 1, zf_astI, zf_ald 0, zf_getR 1 7, zf_ald 0, zf_getI 1 6, zf_ald 0, zf_getI 1 6, zf_astI, zf_ald 0, zf_dup, zf_getI 1 6, zf_ic 1, zf_add, zf_putI 1 6], 60),
  (60, [zf_inc 1 1, zf_go 7], 66),
  (66, [zf_ic 0, zf_ist 1], 68),
  (68, [zf_ild 1, zf_ald 0, zf_getI 1 6, zf_ic2 .ge 154, zf_ild 1, zf_ic 1, zf_add, zf_ist 2], 80),
  (80, [zf_ild 2, zf_ald 0, zf_getI 1 6, zf_ic2 .ge 148, zf_ald 0, zf_getR 1 7, zf_ild 1, zf_aldI 100, zf_ald 0, zf_getR 1 7, zf_ild 2, zf_aldI 100, zf_ic2 .eq 142, zf_ald 0, zf_ald 0, zf_getR 1 5, zf_ild 1, zf_aldI 100, zf_ald 0, zf_getR 1 5, zf_ild 2, zf_aldI 100, zf_inv h 1 52 2, zf_if .eq 142, zf_ald 0, zf_ald 0, zf_getR 1 7, zf_ild 1, zf_aldI 100, zf_ald 0, zf_getR 1 7, zf_ild 2, zf_aldI 100, zf_ald 0, zf_getI 1 6, zf_inv h 1 34 3], 142),
  (142, [zf_inc 2 1, zf_go 80], 148),
  (148, [zf_inc 1 1, zf_go 68], 154),
  (154, [zf_ald 0, zf_inv h 1 41 0, zf_ret], 159)]
theorem zT1_21 (h : Nat) : zTab h 1 21 3 (zt1_21 h) := zTab.mk (ret := none) (bl := xk1_21) (by decide +kernel) (by decide +kernel) rfl rfl
def zt1_22 (h : Nat) : ZB := [(0, [zf_ic 0, zf_ild 2, zf_ild 1, zf_sub, zf_ild 0, zf_ild 3, zf_sub, zf_max, zf_ild 4, zf_sub, zf_max, zf_i2l, zf_retl], 18)]
theorem zT1_22 (h : Nat) : zTab h 1 22 5 (zt1_22 h) := zTab.mk (ret := (some .long)) (bl := xk1_22) (by decide +kernel) (by decide +kernel) rfl rfl
def zt1_23 (h : Nat) : ZB := [(0, [zf_ic 0, zf_ist 3, zf_ic 0, zf_ist 4], 5),
  (5, [zf_ild 4, zf_ald 0, zf_getR 1 1, zf_getI 7 2, zf_ic2 .ge 122, zf_ild 3, zf_if .ne 122, zf_ald 0, zf_ild 4, zf_inv h 1 7 1, zf_ic 2, zf_ic2 .eq 41, zf_ald 0, zf_ild 4, zf_inv h 1 7 1, zf_ic 1, zf_ic2 .ne 59], 41),
  (41, [zf_ald 0, zf_ild 4, zf_inv h 1 39 1, zf_ald 0, zf_ild 1, zf_inv h 1 39 1, zf_ic2 .ne 59, zf_ic 1, zf_go 60], 59),
  (59, [zf_ic 0], 60),
  (60, [zf_ist 5, zf_ald 0, zf_ild 4, zf_inv h 1 46 1, zf_i2l, zf_ald 0, zf_ild 1, zf_inv h 1 46 1, zf_i2l, zf_lsub, zf_ild 2, zf_i2l, zf_lsub, zf_lst 6, zf_ild 5, zf_if .eq 114, zf_lld 6, zf_lc 0, zf_lcmp, zf_if .lt 114, zf_ald 0, zf_ild 4, zf_ild 1, zf_ic 0, zf_inv h 1 48 3, zf_lld 6, zf_lld 6, zf_lmul, zf_lcmp, zf_if .gt 114, zf_ic 1, zf_go 115], 114),
  (114, [zf_ic 0], 115),
  (115, [zf_ist 3, zf_inc 4 1, zf_go 5], 122),
  (122, [zf_ild 3, zf_retz], 124)]
theorem zT1_23 (h : Nat) : zTab h 1 23 8 (zt1_23 h) := zTab.mk (ret := (some .boolean)) (bl := xk1_23) (by decide +kernel) (by decide +kernel) rfl rfl
def zt1_24 (h : Nat) : ZB := [(0, [zf_ald 0, zf_ild 2, zf_ild 3, zf_ild 4, zf_inv h 0 5 3, zf_ist 5, zf_ild 5, zf_ic (-1), zf_ic2 .eq 31, zf_ald 0, zf_getR 0 8, zf_ild 5, zf_aldI 100, zf_ild 1, zf_ic2 .ne 31, zf_ic 1, zf_go 32], 31),
  (31, [zf_ic 0], 32),
  (32, [zf_retz], 33)]
theorem zT1_24 (h : Nat) : zTab h 1 24 6 (zt1_24 h) := zTab.mk (ret := (some .boolean)) (bl := xk1_24) (by decide +kernel) (by decide +kernel) rfl rfl
def zt1_25 (h : Nat) : ZB := [(0, [zf_ald 0, zf_getR 1 12, zf_ald 0, zf_getR 1 14, zf_ild 1, zf_aldI 100, zf_aldI 100, zf_inst h 1 57 1, zf_reti], 15)]
theorem zT1_25 (h : Nat) : zTab h 1 25 2 (zt1_25 h) := zTab.mk (ret := (some .int)) (bl := xk1_25) (by decide +kernel) (by decide +kernel) rfl rfl
def zt1_26 (h : Nat) : ZB := [(0, [zf_ald 0, zf_getR 1 12, zf_ald 0, zf_getR 1 14, zf_ild 1, zf_aldI 100, zf_aldI 100, zf_inst h 1 58 1, zf_reti], 15)]
theorem zT1_26 (h : Nat) : zTab h 1 26 2 (zt1_26 h) := zTab.mk (ret := (some .int)) (bl := xk1_26) (by decide +kernel) (by decide +kernel) rfl rfl
def zt1_28 (h : Nat) : ZB := [(0, [zf_ald 0, zf_ild 1, zf_inv h 1 7 1, zf_ic 3, zf_ic2 .eq 13, zf_ic 1, zf_go 14], 13),
  (13, [zf_ic 0], 14),
  (14, [zf_retz], 15)]
theorem zT1_28 (h : Nat) : zTab h 1 28 2 (zt1_28 h) := zTab.mk (ret := (some .boolean)) (bl := xk1_28) (by decide +kernel) (by decide +kernel) rfl rfl
def zt1_29 (h : Nat) : ZB := [(0, [zf_ild 0, zf_ic 48, zf_ic2 .lt 16, zf_ild 0, zf_ic 57, zf_ic2 .gt 16, zf_ic 1, zf_go 17], 16),
  (16, [zf_ic 0], 17),
  (17, [zf_retz], 18)]
theorem zT1_29 (h : Nat) : zTab h 1 29 1 (zt1_29 h) := zTab.mk (ret := (some .boolean)) (bl := xk1_29) (by decide +kernel) (by decide +kernel) rfl rfl
def zt1_30 (h : Nat) : ZB := [(0, [zf_ald 0, zf_getI 1 3, zf_if .eq 35, zf_ald 0, zf_getR 1 8, zf_getI 7 2, zf_if .ne 35, zf_ald 0, zf_getI 1 9, zf_if .ne 35, zf_ald 0, zf_getI 1 11, zf_if .ne 35, zf_ic 1, zf_go 36], 35),
  (35, [zf_ic 0], 36),
  (36, [zf_retz], 37)]
theorem zT1_30 (h : Nat) : zTab h 1 30 1 (zt1_30 h) := zTab.mk (ret := (some .boolean)) (bl := xk1_30) (by decide +kernel) (by decide +kernel) rfl rfl
def zt1_31 (h : Nat) : ZB := [(0, [zf_ild 0, zf_ic (-1), zf_ic2 .eq 10, zf_ild 0, zf_ild 1, zf_ic2 .ne 14], 10),
  (10, [zf_ic 1, zf_go 15], 14),
  (14, [zf_ic 0], 15),
  (15, [zf_retz], 16)]
theorem zT1_31 (h : Nat) : zTab h 1 31 2 (zt1_31 h) := zTab.mk (ret := (some .boolean)) (bl := xk1_31) (by decide +kernel) (by decide +kernel) rfl rfl
def zt1_32 (h : Nat) : ZB := [(0, [zf_ald 0, zf_getR 1 12, zf_ald 0, zf_getR 1 14, zf_ild 1, zf_aldI 100, zf_aldI 100, zf_ic 256, zf_div, zf_ild 2, zf_ic2 .ne 23, zf_ic 1, zf_go 24], 23),
  (23, [zf_ic 0], 24),
  (24, [zf_retz], 25)]
theorem zT1_32 (h : Nat) : zTab h 1 32 3 (zt1_32 h) := zTab.mk (ret := (some .boolean)) (bl := xk1_32) (by decide +kernel) (by decide +kernel) rfl rfl
def zt1_33 (h : Nat) : ZB := [(0, [zf_ild 3, zf_i2l, zf_ald 0, zf_ild 1, zf_inv h 1 46 1, zf_i2l, zf_ladd, zf_ald 0, zf_ild 2, zf_inv h 1 46 1, zf_i2l, zf_ladd, zf_lst 4, zf_ild 3, zf_ic (-1), zf_ic2 .eq 43, zf_ald 0, zf_ild 1, zf_ild 2, zf_ic 0, zf_inv h 1 48 3, zf_lld 4, zf_lld 4, zf_lmul, zf_lcmp, zf_if .ge 43, zf_ic 1, zf_go 44], 43),
  (43, [zf_ic 0], 44),
  (44, [zf_retz], 45)]
theorem zT1_33 (h : Nat) : zTab h 1 33 6 (zt1_33 h) := zTab.mk (ret := (some .boolean)) (bl := xk1_33) (by decide +kernel) (by decide +kernel) rfl rfl
def zt1_34 (h : Nat) : ZB := [(0, [zf_ild 1, zf_ild 2, zf_min, zf_ist 4, zf_ic 0, zf_ist 5], 10),
  (10, [zf_ild 5, zf_ild 3, zf_ic2 .ge 53, zf_ald 0, zf_getR 1 7, zf_ild 5, zf_aldI 100, zf_ild 1, zf_ic2 .eq 38, zf_ald 0, zf_getR 1 7, zf_ild 5, zf_aldI 100, zf_ild 2, zf_ic2 .ne 47], 38),
  (38, [zf_ald 0, zf_getR 1 7, zf_ild 5, zf_ild 4, zf_astI], 47),
  (47, [zf_inc 5 1, zf_go 10], 53),
  (53, [zf_ret], 54)]
theorem zT1_34 (h : Nat) : zTab h 1 34 6 (zt1_34 h) := zTab.mk (ret := none) (bl := xk1_34) (by decide +kernel) (by decide +kernel) rfl rfl
def zt1_35 (h : Nat) : ZB := [(0, [zf_ic 0, zf_ist 3], 2),
  (2, [zf_ild 3, zf_ald 0, zf_getI 1 4, zf_ic2 .ge 33, zf_ald 0, zf_getR 1 14, zf_ild 3, zf_aldI 100, zf_ild 2, zf_ic2 .ne 27, zf_ald 0, zf_getR 1 14, zf_ild 3, zf_ild 1, zf_astI], 27),
  (27, [zf_inc 3 1, zf_go 2], 33),
  (33, [zf_ret], 34)]
theorem zT1_35 (h : Nat) : zTab h 1 35 4 (zt1_35 h) := zTab.mk (ret := none) (bl := xk1_35) (by decide +kernel) (by decide +kernel) rfl rfl
def zt1_36 (h : Nat) : ZB := [(0, [zf_ald 0, zf_getR 1 1, zf_ild 1, zf_ic 2, zf_inv h 7 1 2, zf_reti], 10)]
theorem zT1_36 (h : Nat) : zTab h 1 36 2 (zt1_36 h) := zTab.mk (ret := (some .int)) (bl := xk1_36) (by decide +kernel) (by decide +kernel) rfl rfl
def zt1_37 (h : Nat) : ZB := [(0, [zf_ald 0, zf_ald 1, zf_getI 0 0, zf_putI 1 0, zf_ald 0, zf_ald 1, zf_inv h 0 17 0, zf_if .ne 20, zf_ic 1, zf_go 21], 20),
  (20, [zf_ic 0], 21),
  (21, [zf_putZ 1 3, zf_ald 0, zf_getR 1 1, zf_ic 0, zf_putI 7 2, zf_ald 0, zf_ic 0, zf_putZ 1 2, zf_ald 0, zf_ald 1, zf_getR 0 10, zf_getI 7 2, zf_putI 1 4, zf_ic 0, zf_ist 3], 50),
  (50, [zf_ild 3, zf_ald 0, zf_getI 1 4, zf_ic2 .ge 98, zf_ald 1, zf_ald 1, zf_ild 3, zf_inv h 0 18 1, zf_inst h 1 45 2, zf_ist 4, zf_ald 0, zf_ic 1, zf_ald 1, zf_ild 3, zf_inv h 0 19 1, zf_ald 1, zf_ald 1, zf_ild 3, zf_inv h 0 18 1, zf_inv h 0 14 1, zf_ild 4, zf_ild 4, zf_inv h 1 4 5, zf_inc 3 1, zf_go 50], 98),
  (98, [zf_ic 0, zf_ist 3], 100),
  (100, [zf_ild 3, zf_ald 1, zf_getR 0 11, zf_getI 7 2, zf_ic2 .ge 145, zf_ald 1, zf_ild 3, zf_inv h 0 12 1, zf_if .eq 139, zf_ald 0, zf_ald 1, zf_ild 3, zf_ic 1, zf_inv h 1 2 3, zf_ald 0, zf_ald 1, zf_ild 3, zf_ic 0, zf_inv h 1 2 3, zf_ald 0, zf_ald 1, zf_ild 3, zf_inv h 1 1 2], 139),
  (139, [zf_inc 3 1, zf_go 100], 145),
  (145, [zf_ald 0, zf_getI 1 2, zf_if .ne 173, zf_ald 0, zf_inv h 1 21 0, zf_ald 0, zf_inv h 1 17 0, zf_ald 0, zf_inv h 1 10 0, zf_ald 0, zf_ald 2, zf_inv h 1 18 1, zf_ald 0, zf_inv h 1 43 0], 173),
  (173, [zf_ret], 174)]
theorem zT1_37 (h : Nat) : zTab h 1 37 5 (zt1_37 h) := zTab.mk (ret := none) (bl := xk1_37) (by decide +kernel) (by decide +kernel) rfl rfl
def zt1_38 (h : Nat) : ZB := [(0, [zf_ic (-1), zf_ist 2, zf_lc 0, zf_lst 3, zf_ic 0, zf_ist 5], 7),
  (7, [zf_ild 5, zf_ald 0, zf_getI 1 4, zf_ic2 .ge 130, zf_ild 5, zf_ic 1, zf_add, zf_ist 6], 22),
  (22, [zf_ild 6, zf_ald 0, zf_getI 1 4, zf_ic2 .ge 124, zf_ald 0, zf_ild 5, zf_inv h 1 39 1, zf_ild 1, zf_ic2 .ne 72, zf_ald 0, zf_ild 6, zf_inv h 1 39 1, zf_ild 1, zf_ic2 .ne 72, zf_ald 0, zf_getR 1 14, zf_ild 5, zf_aldI 100, zf_ald 0, zf_getR 1 14, zf_ild 6, zf_aldI 100, zf_ic2 .eq 72, zf_ic 1, zf_go 73], 72),
  (72, [zf_ic 0], 73),
  (73, [zf_ist 7, zf_ild 7, zf_if .eq 118, zf_ild 2, zf_ic (-1), zf_ic2 .eq 99, zf_ald 0, zf_ild 5, zf_ild 6, zf_ic 0, zf_inv h 1 48 3, zf_lld 3, zf_lcmp, zf_if .ge 118], 99),
  (99, [zf_ic 60, zf_ild 5, zf_mul, zf_ild 6, zf_add, zf_ist 2, zf_ald 0, zf_ild 5, zf_ild 6, zf_ic 0, zf_inv h 1 48 3, zf_lst 3], 118),
  (118, [zf_inc 6 1, zf_go 22], 124),
  (124, [zf_inc 5 1, zf_go 7], 130),
  (130, [zf_ild 2, zf_reti], 132)]
theorem zT1_38 (h : Nat) : zTab h 1 38 8 (zt1_38 h) := zTab.mk (ret := (some .int)) (bl := xk1_38) (by decide +kernel) (by decide +kernel) rfl rfl
def zt1_39 (h : Nat) : ZB := [(0, [zf_ald 0, zf_getR 1 1, zf_ild 1, zf_ic 1, zf_inv h 7 1 2, zf_reti], 10)]
theorem zT1_39 (h : Nat) : zTab h 1 39 2 (zt1_39 h) := zTab.mk (ret := (some .int)) (bl := xk1_39) (by decide +kernel) (by decide +kernel) rfl rfl
def zt1_40 (h : Nat) : ZB := [(0, [zf_ic (-1), zf_ist 3, zf_ic 0, zf_ist 4], 5),
  (5, [zf_ild 4, zf_ald 0, zf_getI 1 13, zf_ic2 .ge 67, zf_ild 1, zf_ild 4, zf_bit zshr, zf_ic 1, zf_bit zand, zf_if .ne 27, zf_ic 1, zf_go 28], 27),
  (27, [zf_ic 0], 28),
  (28, [zf_ist 5, zf_ild 5, zf_if .eq 61, zf_ild 3, zf_ic (-1), zf_ic2 .eq 58, zf_ald 0, zf_ild 1, zf_ild 2, zf_ild 4, zf_inv h 1 53 3, zf_ald 0, zf_ild 1, zf_ild 2, zf_ild 3, zf_inv h 1 53 3, zf_ic2 .ge 61], 58),
  (58, [zf_ild 4, zf_ist 3], 61),
  (61, [zf_inc 4 1, zf_go 5], 67),
  (67, [zf_ild 3, zf_reti], 69)]
theorem zT1_40 (h : Nat) : zTab h 1 40 6 (zt1_40 h) := zTab.mk (ret := (some .int)) (bl := xk1_40) (by decide +kernel) (by decide +kernel) rfl rfl
def zt1_41 (h : Nat) : ZB := [(0, [zf_ic 0, zf_ist 1, zf_ic 0, zf_ist 2], 4),
  (4, [zf_ild 2, zf_ald 0, zf_getI 1 6, zf_ic2 .ge 38, zf_ald 0, zf_getR 1 7, zf_ild 2, zf_aldI 100, zf_ild 2, zf_ic2 .ne 32, zf_ald 0, zf_getR 1 14, zf_ild 2, zf_ild 1, zf_astI, zf_inc 1 1], 32),
  (32, [zf_inc 2 1, zf_go 4], 38),
  (38, [zf_ic 0, zf_ist 2], 40),
  (40, [zf_ild 2, zf_ald 0, zf_getI 1 6, zf_ic2 .ge 71, zf_ald 0, zf_getR 1 7, zf_ild 2, zf_ald 0, zf_getR 1 14, zf_ald 0, zf_getR 1 7, zf_ild 2, zf_aldI 100, zf_aldI 100, zf_astI, zf_inc 2 1, zf_go 40], 71),
  (71, [zf_ret], 72)]
theorem zT1_41 (h : Nat) : zTab h 1 41 3 (zt1_41 h) := zTab.mk (ret := none) (bl := xk1_41) (by decide +kernel) (by decide +kernel) rfl rfl
def zt1_42 (h : Nat) : ZB := [(0, [zf_ic 1, zf_ald 0, zf_getI 1 13, zf_bit zshl, zf_ic 1, zf_sub, zf_ist 1, zf_ild 1, zf_ist 2], 11),
  (11, [zf_ild 2, zf_if .le 74, zf_ic 0, zf_ist 3], 17),
  (17, [zf_ild 3, zf_ald 0, zf_getI 1 13, zf_ic2 .ge 68, zf_ald 0, zf_ild 2, zf_ild 3, zf_inv h 1 40 2, zf_ist 4, zf_ald 0, zf_getR 1 15, zf_ild 2, zf_ic 8, zf_mul, zf_ild 3, zf_add, zf_ild 4, zf_ic (-1), zf_ic2 .ne 53, zf_ic 0, zf_go 61], 53),
  (53, [zf_ald 0, zf_ild 2, zf_ild 3, zf_ild 4, zf_inv h 1 53 3], 61),
  (61, [zf_astI, zf_inc 3 1, zf_go 17], 68),
  (68, [zf_inc 2 (-1), zf_go 11], 74),
  (74, [zf_ic 0, zf_ist 2, zf_ic (-1), zf_ist 3, zf_ic 0, zf_ist 4], 81),
  (81, [zf_ild 4, zf_ald 0, zf_getI 1 13, zf_ic2 .ge 117, zf_ald 0, zf_ild 2, zf_ild 3, zf_inv h 1 40 2, zf_ist 3, zf_ald 0, zf_getR 1 14, zf_ild 4, zf_ild 3, zf_astI, zf_ild 2, zf_ic 1, zf_ild 3, zf_bit zshl, zf_bit zor, zf_ist 2, zf_inc 4 1, zf_go 81], 117),
  (117, [zf_ret], 118)]
theorem zT1_42 (h : Nat) : zTab h 1 42 5 (zt1_42 h) := zTab.mk (ret := none) (bl := xk1_42) (by decide +kernel) (by decide +kernel) rfl rfl
def zt1_43 (h : Nat) : ZB := [(0, [zf_ald 0, zf_ic 0, zf_putI 1 13, zf_ic 0, zf_ist 1], 7),
  (7, [zf_ild 1, zf_ald 0, zf_getR 1 1, zf_getI 7 2, zf_ic2 .ge 73, zf_ald 0, zf_ild 1, zf_inv h 1 7 1, zf_ic 3, zf_ic2 .ne 67, zf_ald 0, zf_getR 1 12, zf_ald 0, zf_getI 1 13, zf_ald 0, zf_ild 1, zf_inv h 1 36 1, zf_ic 16, zf_mul, zf_ic 16, zf_mul, zf_ald 0, zf_getR 1 1, zf_ild 1, zf_ic 3, zf_inv h 7 1 2, zf_add, zf_astI, zf_ald 0, zf_dup, zf_getI 1 13, zf_ic 1, zf_add, zf_putI 1 13], 67),
  (67, [zf_inc 1 1, zf_go 7], 73),
  (73, [zf_ald 0, zf_getI 1 13, zf_ic 8, zf_ic2 .gt 89, zf_ald 0, zf_inv h 1 42 0, zf_go 93], 89),
  (89, [zf_ald 0, zf_inv h 1 44 0], 93),
  (93, [zf_ret], 94)]
theorem zT1_43 (h : Nat) : zTab h 1 43 2 (zt1_43 h) := zTab.mk (ret := none) (bl := xk1_43) (by decide +kernel) (by decide +kernel) rfl rfl
def zt1_44 (h : Nat) : ZB := [(0, [zf_lc 0, zf_lst 1, zf_ic (-1), zf_ist 3, zf_ic 0, zf_ist 4], 7),
  (7, [zf_ild 4, zf_ald 0, zf_getI 1 13, zf_ic2 .ge 112, zf_ic (-1), zf_ist 5, zf_ic 0, zf_ist 6], 22),
  (22, [zf_ild 6, zf_ald 0, zf_getI 1 13, zf_ic2 .ge 87, zf_lld 1, zf_ild 6, zf_lsh zlshr, zf_lc 1, zf_lbit zland, zf_lc 0, zf_lcmp, zf_if .ne 46, zf_ic 1, zf_go 47], 46),
  (46, [zf_ic 0], 47),
  (47, [zf_ist 7, zf_ild 7, zf_if .eq 81, zf_ild 5, zf_ic (-1), zf_ic2 .eq 77, zf_ald 0, zf_ild 3, zf_ild 6, zf_inv h 1 55 2, zf_ald 0, zf_ild 3, zf_ild 5, zf_inv h 1 55 2, zf_ic2 .ge 81], 77),
  (77, [zf_ild 6, zf_ist 5], 81),
  (81, [zf_inc 6 1, zf_go 22], 87),
  (87, [zf_ald 0, zf_getR 1 14, zf_ild 4, zf_ild 5, zf_astI, zf_lld 1, zf_lc 1, zf_ild 5, zf_lsh zlshl, zf_lbit zlor, zf_lst 1, zf_ild 5, zf_ist 3, zf_inc 4 1, zf_go 7], 112),
  (112, [zf_ret], 113)]
theorem zT1_44 (h : Nat) : zTab h 1 44 8 (zt1_44 h) := zTab.mk (ret := none) (bl := xk1_44) (by decide +kernel) (by decide +kernel) rfl rfl
def zt1_45 (h : Nat) : ZB := [(0, [zf_ic 16, zf_ald 0, zf_ild 1, zf_inv h 0 21 1, zf_mul, zf_ald 0, zf_ild 1, zf_inv h 0 6 1, zf_add, zf_reti], 15)]
theorem zT1_45 (h : Nat) : zTab h 1 45 2 (zt1_45 h) := zTab.mk (ret := (some .int)) (bl := xk1_45) (by decide +kernel) (by decide +kernel) rfl rfl
def zt1_46 (h : Nat) : ZB := [(0, [zf_ald 0, zf_ild 1, zf_inv h 1 7 1, zf_ist 2, zf_ild 2, zf_if .lt 26, zf_ild 2, zf_rc 3, zf_len, zf_ic2 .ge 26, zf_rc 3, zf_ild 2, zf_aldI 100, zf_go 27], 26),
  (26, [zf_ic 0], 27),
  (27, [zf_reti], 28)]
theorem zT1_46 (h : Nat) : zTab h 1 46 3 (zt1_46 h) := zTab.mk (ret := (some .int)) (bl := xk1_46) (by decide +kernel) (by decide +kernel) rfl rfl
def zt1_47 (h : Nat) : ZB := [(0, [zf_ild 1, zf_if .lt 10, zf_ild 1, zf_ic 7, zf_ic2 .lt 12], 10),
  (10, [zf_ic (-1), zf_reti], 12),
  (12, [zf_ald 0, zf_ild 1, zf_inv h 1 56 1, zf_ald 0, zf_ic 0, zf_putI 1 18, zf_ald 0, zf_rc 31, zf_inv h 1 50 1, zf_if .eq 74, zf_ald 0, zf_inv h 1 49 0, zf_ild 1, zf_ic2 .ne 74, zf_ald 0, zf_rc 32, zf_inv h 1 50 1, zf_if .eq 74, zf_ald 0, zf_inv h 1 49 0, zf_ild 1, zf_ic 1, zf_add, zf_ic2 .ne 74, zf_ald 0, zf_rc 33, zf_inv h 1 50 1, zf_if .eq 74, zf_ic 1, zf_go 75], 74),
  (74, [zf_ic 0], 75),
  (75, [zf_ist 2, zf_ald 0, zf_ild 1, zf_inv h 1 9 1, zf_if .le 104, zf_ild 2, zf_if .eq 102, zf_ald 0, zf_rc 34, zf_inv h 1 50 1, zf_if .eq 102, zf_ic 1, zf_go 103], 102),
  (102, [zf_ic 0], 103),
  (103, [zf_ist 2], 104),
  (104, [zf_ic 0, zf_ist 3], 106),
  (106, [zf_ild 3, zf_ald 0, zf_getI 1 13, zf_ic2 .ge 193, zf_ild 2, zf_if .eq 193, zf_ald 0, zf_ild 3, zf_ild 1, zf_inv h 1 32 2, zf_if .eq 181, zf_ald 0, zf_rc 35, zf_inv h 1 50 1, zf_if .eq 185, zf_ald 0, zf_inv h 1 49 0, zf_ald 0, zf_ild 3, zf_inv h 1 25 1, zf_ic2 .ne 185, zf_ald 0, zf_rc 36, zf_inv h 1 50 1, zf_if .eq 185, zf_ald 0, zf_inv h 1 49 0, zf_ald 0, zf_ild 3, zf_inv h 1 26 1, zf_ic2 .ne 185, zf_ald 0, zf_rc 37, zf_inv h 1 50 1, zf_if .eq 185], 181),
  (181, [zf_ic 1, zf_go 186], 185),
  (185, [zf_ic 0], 186),
  (186, [zf_ist 2, zf_inc 3 1, zf_go 106], 193),
  (193, [zf_ild 2, zf_if .eq 222, zf_ald 0, zf_rc 38, zf_inv h 1 50 1, zf_if .eq 222, zf_ald 0, zf_getI 1 18, zf_ald 0, zf_getI 1 17, zf_ic2 .ne 222, zf_ic 1, zf_go 223], 222),
  (222, [zf_ic 0], 223),
  (223, [zf_reti], 224)]
theorem zT1_47 (h : Nat) : zTab h 1 47 4 (zt1_47 h) := zTab.mk (ret := (some .int)) (bl := xk1_47) (by decide +kernel) (by decide +kernel) rfl rfl
def zt1_48 (h : Nat) : ZB := [(0, [zf_ald 0, zf_ild 1, zf_ic 1, zf_ic 0, zf_inv h 1 12 3, zf_ald 0, zf_ild 1, zf_ic 1, zf_ic 1, zf_inv h 1 12 3, zf_ald 0, zf_ild 2, zf_ic 1, zf_ic 0, zf_inv h 1 12 3, zf_ald 0, zf_ild 2, zf_ic 1, zf_ic 1, zf_inv h 1 12 3, zf_ild 3, zf_inst h 1 22 5, zf_lst 4, zf_ald 0, zf_ild 1, zf_ic 0, zf_ic 0, zf_inv h 1 12 3, zf_ald 0, zf_ild 1, zf_ic 0, zf_ic 1, zf_inv h 1 12 3, zf_ald 0, zf_ild 2, zf_ic 0, zf_ic 0, zf_inv h 1 12 3, zf_ald 0, zf_ild 2, zf_ic 0, zf_ic 1, zf_inv h 1 12 3, zf_ild 3, zf_inst h 1 22 5, zf_lst 6, zf_lld 4, zf_lld 4, zf_lmul, zf_lld 6, zf_lld 6, zf_lmul, zf_ladd, zf_retl], 80)]
theorem zT1_48 (h : Nat) : zTab h 1 48 8 (zt1_48 h) := zTab.mk (ret := (some .long)) (bl := xk1_48) (by decide +kernel) (by decide +kernel) rfl rfl
def zt1_49 (h : Nat) : ZB := [(0, [zf_ald 0, zf_getI 1 18, zf_ist 1, zf_ic 0, zf_ist 2], 7),
  (7, [zf_ald 0, zf_getI 1 18, zf_ald 0, zf_getI 1 17, zf_ic2 .ge 74, zf_ald 0, zf_getI 1 18, zf_ild 1, zf_ic 5, zf_add, zf_ic2 .ge 74, zf_ald 0, zf_getR 1 16, zf_ald 0, zf_getI 1 18, zf_aldI 104, zf_inst h 1 29 1, zf_if .eq 74, zf_ild 2, zf_ic 10, zf_mul, zf_ald 0, zf_getR 1 16, zf_ald 0, zf_getI 1 18, zf_aldI 104, zf_add, zf_ic 48, zf_sub, zf_ist 2, zf_ald 0, zf_dup, zf_getI 1 18, zf_ic 1, zf_add, zf_putI 1 18, zf_go 7], 74),
  (74, [zf_ald 0, zf_getI 1 18, zf_ild 1, zf_ic2 .ne 86, zf_ic (-1), zf_go 87], 86),
  (86, [zf_ild 2], 87),
  (87, [zf_reti], 88)]
theorem zT1_49 (h : Nat) : zTab h 1 49 3 (zt1_49 h) := zTab.mk (ret := (some .int)) (bl := xk1_49) (by decide +kernel) (by decide +kernel) rfl rfl
def zt1_50 (h : Nat) : ZB := [(0, [zf_ic 1, zf_ist 2, zf_ic 0, zf_ist 3], 4),
  (4, [zf_ild 3, zf_ald 1, zf_slen, zf_ic2 .ge 66, zf_ild 2, zf_if .eq 66, zf_ald 0, zf_getI 1 18, zf_ald 0, zf_getI 1 17, zf_ic2 .ge 48, zf_ald 0, zf_getR 1 16, zf_ald 0, zf_getI 1 18, zf_aldI 104, zf_ald 1, zf_ild 3, zf_schar, zf_ic2 .ne 48, zf_ic 1, zf_go 49], 48),
  (48, [zf_ic 0], 49),
  (49, [zf_ist 2, zf_ald 0, zf_dup, zf_getI 1 18, zf_ic 1, zf_add, zf_putI 1 18, zf_inc 3 1, zf_go 4], 66),
  (66, [zf_ild 2, zf_retz], 68)]
theorem zT1_50 (h : Nat) : zTab h 1 50 4 (zt1_50 h) := zTab.mk (ret := (some .boolean)) (bl := xk1_50) (by decide +kernel) (by decide +kernel) rfl rfl
def zt1_51 (h : Nat) : ZB := [(0, [zf_ald 0, zf_ild 1, zf_inv h 1 36 1, zf_ald 0, zf_ild 1, zf_inv h 1 7 1, zf_ic 3, zf_ic2 .ne 18, zf_ic 1, zf_go 19], 18),
  (18, [zf_ic 0], 19),
  (19, [zf_add, zf_reti], 21)]
theorem zT1_51 (h : Nat) : zTab h 1 51 2 (zt1_51 h) := zTab.mk (ret := (some .int)) (bl := xk1_51) (by decide +kernel) (by decide +kernel) rfl rfl
def zt1_52 (h : Nat) : ZB := [(0, [zf_ald 0, zf_ild 1, zf_inv h 1 51 1, zf_ald 0, zf_ild 2, zf_inv h 1 51 1, zf_min, zf_ist 3, zf_ald 0, zf_ild 1, zf_inv h 1 36 1, zf_ald 0, zf_ild 2, zf_inv h 1 36 1, zf_max, zf_ild 3, zf_ic2 .le 33, zf_ic 0, zf_retz], 33),
  (33, [zf_ald 0, zf_ild 1, zf_inv h 1 7 1, zf_if .ne 45, zf_ic 1, zf_go 46], 45),
  (45, [zf_ic 0], 46),
  (46, [zf_ist 4, zf_ald 0, zf_ild 2, zf_inv h 1 7 1, zf_if .ne 60, zf_ic 1, zf_go 61], 60),
  (60, [zf_ic 0], 61),
  (61, [zf_ist 5, zf_ild 4, zf_if .eq 76, zf_ald 0, zf_ild 1, zf_inv h 1 46 1, zf_go 77], 76),
  (76, [zf_ic 0], 77),
  (77, [zf_ild 5, zf_if .eq 90, zf_ald 0, zf_ild 2, zf_inv h 1 46 1, zf_go 91], 90),
  (90, [zf_ic 0], 91),
  (91, [zf_add, zf_ist 6, zf_ild 4, zf_if .eq 103, zf_ic 0, zf_go 108], 103),
  (103, [zf_ald 0, zf_ild 1, zf_inv h 1 46 1], 108),
  (108, [zf_ild 5, zf_if .eq 117, zf_ic 0, zf_go 122], 117),
  (117, [zf_ald 0, zf_ild 2, zf_inv h 1 46 1], 122),
  (122, [zf_add, zf_i2l, zf_lst 7, zf_ald 0, zf_ild 1, zf_ild 2, zf_ild 6, zf_inv h 1 48 3, zf_lld 7, zf_lld 7, zf_lmul, zf_lcmp, zf_if .gt 147, zf_ic 1, zf_go 148], 147),
  (147, [zf_ic 0], 148),
  (148, [zf_retz], 149)]
theorem zT1_52 (h : Nat) : zTab h 1 52 9 (zt1_52 h) := zTab.mk (ret := (some .boolean)) (bl := xk1_52) (by decide +kernel) (by decide +kernel) rfl rfl
def zt1_53 (h : Nat) : ZB := [(0, [zf_ald 0, zf_ild 2, zf_ild 3, zf_inv h 1 55 2, zf_ald 0, zf_getR 1 15, zf_ild 1, zf_ic 1, zf_ild 3, zf_bit zshl, zf_bit zor, zf_ic 8, zf_mul, zf_ild 3, zf_add, zf_aldI 100, zf_add, zf_reti], 23)]
theorem zT1_53 (h : Nat) : zTab h 1 53 4 (zt1_53 h) := zTab.mk (ret := (some .int)) (bl := xk1_53) (by decide +kernel) (by decide +kernel) rfl rfl
def zt1_54 (h : Nat) : ZB := [(0, [zf_ald 0, zf_getI 7 2, zf_ic 1, zf_sub, zf_ist 4], 8),
  (8, [zf_ild 4, zf_if .lt 118, zf_ald 0, zf_ild 4, zf_ic 1, zf_inv h 7 1 2, zf_ist 5, zf_ald 0, zf_ild 4, zf_ic 2, zf_inv h 7 1 2, zf_ist 6, zf_ild 3, zf_ic (-1), zf_ic2 .ne 45, zf_ild 5, zf_ild 2, zf_inst h 1 31 2, zf_go 86], 45),
  (45, [zf_ild 5, zf_ild 2, zf_inst h 1 31 2, zf_if .eq 63, zf_ild 6, zf_ild 3, zf_inst h 1 31 2, zf_if .ne 81], 63),
  (63, [zf_ild 5, zf_ild 3, zf_inst h 1 31 2, zf_if .eq 85, zf_ild 6, zf_ild 2, zf_inst h 1 31 2, zf_if .eq 85], 81),
  (81, [zf_ic 1, zf_go 86], 85),
  (85, [zf_ic 0], 86),
  (86, [zf_ist 7, zf_ald 0, zf_ild 4, zf_ic 0, zf_inv h 7 1 2, zf_ild 1, zf_ic2 .ne 112, zf_ild 7, zf_if .eq 112, zf_ald 0, zf_ild 4, zf_ic 3, zf_inv h 7 1 2, zf_reti], 112),
  (112, [zf_inc 4 (-1), zf_go 8], 118),
  (118, [zf_ic (-1), zf_reti], 120)]
theorem zT1_54 (h : Nat) : zTab h 1 54 8 (zt1_54 h) := zTab.mk (ret := (some .int)) (bl := xk1_54) (by decide +kernel) (by decide +kernel) rfl rfl
def zt1_55 (h : Nat) : ZB := [(0, [zf_ald 0, zf_getR 1 12, zf_ild 2, zf_aldI 100, zf_inst h 1 57 1, zf_ist 3, zf_ald 0, zf_getR 1 12, zf_ild 2, zf_aldI 100, zf_inst h 1 58 1, zf_ist 4, zf_ild 1, zf_ic (-1), zf_ic2 .eq 52, zf_ild 3, zf_ald 0, zf_getR 1 12, zf_ild 1, zf_aldI 100, zf_inst h 1 57 1, zf_sub, zf_ist 3, zf_ild 4, zf_ald 0, zf_getR 1 12, zf_ild 1, zf_aldI 100, zf_inst h 1 58 1, zf_sub, zf_ist 4], 52),
  (52, [zf_ild 3, zf_abs, zf_ild 4, zf_abs, zf_max, zf_reti], 65)]
theorem zT1_55 (h : Nat) : zTab h 1 55 5 (zt1_55 h) := zTab.mk (ret := (some .int)) (bl := xk1_55) (by decide +kernel) (by decide +kernel) rfl rfl
def zt1_56 (h : Nat) : ZB := [(0, [zf_ald 0, zf_ic 0, zf_putI 1 17, zf_ald 0, zf_rc 31, zf_inv h 1 14 1, zf_ald 0, zf_ild 1, zf_inv h 1 13 1, zf_ald 0, zf_rc 32, zf_inv h 1 14 1, zf_ald 0, zf_ild 1, zf_ic 1, zf_add, zf_inv h 1 13 1, zf_ald 0, zf_rc 33, zf_inv h 1 14 1, zf_ald 0, zf_ild 1, zf_inv h 1 9 1, zf_if .le 53, zf_ald 0, zf_rc 34, zf_inv h 1 14 1], 53),
  (53, [zf_ic 0, zf_ist 2], 55),
  (55, [zf_ild 2, zf_ald 0, zf_getI 1 13, zf_ic2 .ge 117, zf_ald 0, zf_ild 2, zf_ild 1, zf_inv h 1 32 2, zf_if .eq 111, zf_ald 0, zf_rc 35, zf_inv h 1 14 1, zf_ald 0, zf_ald 0, zf_ild 2, zf_inv h 1 25 1, zf_inv h 1 13 1, zf_ald 0, zf_rc 36, zf_inv h 1 14 1, zf_ald 0, zf_ald 0, zf_ild 2, zf_inv h 1 26 1, zf_inv h 1 13 1, zf_ald 0, zf_rc 37, zf_inv h 1 14 1], 111),
  (111, [zf_inc 2 1, zf_go 55], 117),
  (117, [zf_ald 0, zf_rc 38, zf_inv h 1 14 1, zf_ret], 125)]
theorem zT1_56 (h : Nat) : zTab h 1 56 3 (zt1_56 h) := zTab.mk (ret := none) (bl := xk1_56) (by decide +kernel) (by decide +kernel) rfl rfl
def zt1_57 (h : Nat) : ZB := [(0, [zf_ic 1000, zf_ild 0, zf_ic 16, zf_rem, zf_mul, zf_reti], 9)]
theorem zT1_57 (h : Nat) : zTab h 1 57 1 (zt1_57 h) := zTab.mk (ret := (some .int)) (bl := xk1_57) (by decide +kernel) (by decide +kernel) rfl rfl
def zt1_58 (h : Nat) : ZB := [(0, [zf_ic 1000, zf_ild 0, zf_ic 16, zf_div, zf_ic 16, zf_rem, zf_mul, zf_reti], 12)]
theorem zT1_58 (h : Nat) : zTab h 1 58 1 (zt1_58 h) := zTab.mk (ret := (some .int)) (bl := xk1_58) (by decide +kernel) (by decide +kernel) rfl rfl
