/-! TABLES of what methods of class 12 ask -/
def zt12_0 (h : Nat) : ZB := [(0, [zf_ild 1, zf_ic 14, zf_ic2 .ne 41, zf_ald 0, zf_getI 12 38, zf_ic 8, zf_ic2 .ge 40, zf_ald 0, zf_getR 12 39, zf_ald 0, zf_getI 12 38, zf_ald 0, zf_getR 12 10, zf_ild 2, zf_aldI 100, zf_astI, zf_ald 0, zf_dup, zf_getI 12 38, zf_ic 1, zf_add, zf_putI 12 38], 40),
  (40, [zf_ret], 41),
  (41, [zf_ild 1, zf_ic 15, zf_ic2 .ne 53, zf_ald 0, zf_ild 2, zf_inv h 12 5 1, zf_ret], 53),
  (53, [zf_ald 0, zf_ald 0, zf_getR 12 10, zf_ild 2, zf_aldI 100, zf_inv h 12 4 1, zf_if .ne 82, zf_ald 0, zf_ald 0, zf_getI 12 66, zf_ald 0, zf_getI 12 51, zf_ic 0, zf_inv h 12 38 3, zf_go 226], 82),
  (82, [zf_ild 1, zf_ic 4, zf_ic2 .ne 123, zf_ald 0, zf_getI 12 36, zf_ic 40, zf_ic2 .ge 226, zf_ald 0, zf_getR 12 37, zf_ald 0, zf_getI 12 36, zf_ald 0, zf_getL 12 65, zf_l2i, zf_astI, zf_ald 0, zf_dup, zf_getI 12 36, zf_ic 1, zf_add, zf_putI 12 36, zf_go 226], 123),
  (123, [zf_ild 1, zf_ic 12, zf_ic2 .ne 146, zf_ald 0, zf_ic 4, zf_ald 0, zf_getI 12 51, zf_ald 0, zf_getL 12 65, zf_l2i, zf_inv h 12 38 3, zf_go 226], 146),
  (146, [zf_ild 1, zf_ic 13, zf_ic2 .ne 177, zf_ald 0, zf_ald 0, zf_getL 12 65, zf_inv h 12 1 1, zf_ic (-1), zf_ic2 .ne 226, zf_ald 0, zf_ic 3, zf_ald 0, zf_getI 12 51, zf_ic 0, zf_inv h 12 38 3, zf_go 226], 177),
  (177, [zf_ild 1, zf_ic 16, zf_ic2 .ne 207, zf_ald 0, zf_ald 0, zf_getL 12 65, zf_inv h 12 30 1, zf_if .ne 226, zf_ald 0, zf_ic 3, zf_ald 0, zf_getI 12 51, zf_ic 0, zf_inv h 12 38 3, zf_go 226], 207),
  (207, [zf_ald 0, zf_getL 12 65, zf_lc 0, zf_lcmp, zf_if .ne 226, zf_ald 0, zf_ald 0, zf_getR 12 11, zf_ild 2, zf_aldI 100, zf_putI 12 52], 226),
  (226, [zf_ret], 227)]
theorem zT12_0 (h : Nat) : zTab h 12 0 3 (zt12_0 h) := zTab.mk (ret := none) (bl := xk12_0) (by decide +kernel) (by decide +kernel) rfl rfl
def zt12_1 (h : Nat) : ZB := [(0, [zf_ald 0, zf_getI 12 28, zf_ic 12, zf_ic2 .ne 11, zf_ic (-1), zf_reti], 11),
  (11, [zf_ic 0, zf_ist 3], 13),
  (13, [zf_ild 3, zf_ic 6, zf_ic2 .ge 48, zf_ald 0, zf_getR 12 29, zf_ic 6, zf_ald 0, zf_getI 12 28, zf_mul, zf_ild 3, zf_add, zf_ild 3, zf_if .ne 40, zf_lld 1, zf_go 41], 40),
  (40, [zf_lc 0], 41),
  (41, [zf_astL, zf_inc 3 1, zf_go 13], 48),
  (48, [zf_ald 0, zf_dup, zf_getI 12 28, zf_ic 1, zf_add, zf_putI 12 28, zf_ald 0, zf_getI 12 28, zf_ic 1, zf_sub, zf_reti], 65)]
theorem zT12_1 (h : Nat) : zTab h 12 1 4 (zt12_1 h) := zTab.mk (ret := (some .int)) (bl := xk12_1) (by decide +kernel) (by decide +kernel) rfl rfl
def zt12_2 (h : Nat) : ZB := [(0, [zf_ald 0, zf_ic 0, zf_putI 12 0, zf_ild 1, zf_if .lt 17, zf_ild 1, zf_ald 0, zf_getI 12 38, zf_ic2 .lt 19], 17),
  (17, [zf_ic (-1), zf_reti], 19),
  (19, [zf_ald 0, zf_ald 0, zf_getR 12 39, zf_ild 1, zf_aldI 100, zf_inv h 12 4 1, zf_if .ne 37, zf_ic (-2), zf_go 51], 37),
  (37, [zf_ald 0, zf_getL 12 65, zf_lc 0, zf_lcmp, zf_if .eq 50, zf_ic 1, zf_go 51], 50),
  (50, [zf_ic 0], 51),
  (51, [zf_reti], 52)]
theorem zT12_2 (h : Nat) : zTab h 12 2 2 (zt12_2 h) := zTab.mk (ret := (some .int)) (bl := xk12_2) (by decide +kernel) (by decide +kernel) rfl rfl
def zt12_3 (h : Nat) : ZB := [(0, [zf_ald 0, zf_getR 12 11, zf_ic 600, zf_ald 0, zf_getI 12 15, zf_mul, zf_ild 1, zf_add, zf_ald 0, zf_getI 12 18, zf_astI, zf_ret], 20)]
theorem zT12_3 (h : Nat) : zTab h 12 3 2 (zt12_3 h) := zTab.mk (ret := none) (bl := xk12_3) (by decide +kernel) (by decide +kernel) rfl rfl
def zt12_4 (h : Nat) : ZB := [(0, [zf_ic 0, zf_ist 2, zf_ald 0, zf_ic 0, zf_putI 12 66, zf_ic 1000, zf_ald 0, zf_getI 12 3, zf_mul, zf_ild 1, zf_add, zf_ist 3], 18),
  (18, [zf_ald 0, zf_getR 12 13, zf_ild 3, zf_aldI 100, zf_if .eq 348, zf_ald 0, zf_getI 12 66, zf_if .ne 348, zf_ald 0, zf_getR 12 13, zf_ild 3, zf_aldI 100, zf_ist 4, zf_ild 2, zf_if .le 57, zf_ald 0, zf_getR 12 64, zf_ild 2, zf_ic 1, zf_sub, zf_aldL, zf_go 58], 57),
  (57, [zf_lc 0], 58),
  (58, [zf_lst 5, zf_ild 4, zf_ic 48, zf_ic2 .eq 81, zf_ild 4, zf_ic 97, zf_ic2 .eq 81, zf_ild 4, zf_ic 35, zf_ic2 .ne 136], 81),
  (81, [zf_ald 0, zf_getR 12 64, zf_ild 2, zf_ild 4, zf_ic 48, zf_ic2 .ne 103, zf_ald 0, zf_getR 12 14, zf_ild 3, zf_aldI 100, zf_i2l, zf_go 129], 103),
  (103, [zf_ild 4, zf_ic 97, zf_ic2 .ne 124, zf_ald 0, zf_getR 12 33, zf_ald 0, zf_getR 12 14, zf_ild 3, zf_aldI 100, zf_aldL, zf_go 129], 124),
  (124, [zf_ald 0, zf_getI 12 28, zf_i2l], 129),
  (129, [zf_astL, zf_inc 2 1, zf_go 342], 136),
  (136, [zf_ild 4, zf_ic 95, zf_ic2 .ne 158, zf_ald 0, zf_getR 12 64, zf_ild 2, zf_ic 1, zf_sub, zf_lc 0, zf_lld 5, zf_lsub, zf_astL, zf_go 342], 158),
  (158, [zf_ild 4, zf_ic 64, zf_ic2 .ne 219, zf_ald 0, zf_ald 0, zf_lld 5, zf_inv h 12 28 1, zf_if .eq 179, zf_ic 0, zf_go 180], 179),
  (179, [zf_ic 2], 180),
  (180, [zf_putI 12 66, zf_ald 0, zf_getI 12 66, zf_if .ne 342, zf_ald 0, zf_getR 12 64, zf_ild 2, zf_ic 1, zf_sub, zf_ald 0, zf_getR 12 29, zf_ic 6, zf_lld 5, zf_l2i, zf_mul, zf_ald 0, zf_getR 12 14, zf_ild 3, zf_aldI 100, zf_add, zf_aldL, zf_astL, zf_go 342], 219),
  (219, [zf_ild 4, zf_ic 39, zf_ic2 .ne 279, zf_ald 0, zf_lld 5, zf_lc 0, zf_lcmp, zf_if .lt 249, zf_lld 5, zf_ald 0, zf_getI 12 30, zf_i2l, zf_lcmp, zf_if .ge 249, zf_ic 0, zf_go 250], 249),
  (249, [zf_ic 2], 250),
  (250, [zf_putI 12 66, zf_ald 0, zf_getI 12 66, zf_if .ne 342, zf_ald 0, zf_getR 12 64, zf_ild 2, zf_ic 1, zf_sub, zf_ald 0, zf_getR 12 31, zf_lld 5, zf_l2i, zf_aldL, zf_astL, zf_go 342], 279),
  (279, [zf_ald 0, zf_lld 5, zf_lc 0, zf_lcmp, zf_if .ne 305, zf_ild 4, zf_ic 47, zf_ic2 .eq 301, zf_ild 4, zf_ic 37, zf_ic2 .ne 305], 301),
  (301, [zf_ic 1, zf_go 306], 305),
  (305, [zf_ic 0], 306),
  (306, [zf_putI 12 66, zf_inc 2 (-1), zf_ald 0, zf_getI 12 66, zf_if .ne 342, zf_ald 0, zf_getR 12 64, zf_ild 2, zf_ic 1, zf_sub, zf_ild 4, zf_ald 0, zf_getR 12 64, zf_ild 2, zf_ic 1, zf_sub, zf_aldL, zf_lld 5, zf_inst h 12 47 3, zf_astL], 342),
  (342, [zf_inc 3 1, zf_go 18], 348),
  (348, [zf_ald 0, zf_ild 2, zf_if .le 364, zf_ald 0, zf_getR 12 64, zf_ild 2, zf_ic 1, zf_sub, zf_aldL, zf_go 365], 364),
  (364, [zf_lc 0], 365),
  (365, [zf_putL 12 65, zf_ald 0, zf_getI 12 66, zf_if .ne 379, zf_ic 1, zf_go 380], 379),
  (379, [zf_ic 0], 380),
  (380, [zf_retz], 381)]
theorem zT12_4 (h : Nat) : zTab h 12 4 7 (zt12_4 h) := zTab.mk (ret := (some .boolean)) (bl := xk12_4) (by decide +kernel) (by decide +kernel) rfl rfl
def zt12_5 (h : Nat) : ZB := [(0, [zf_ald 0, zf_getR 12 33, zf_ic 25, zf_aldL, zf_lst 2, zf_ic 0, zf_ist 4, zf_ic 0, zf_ist 5], 14),
  (14, [zf_ild 5, zf_ald 0, zf_getI 12 28, zf_ic2 .ge 84, zf_ald 0, zf_getR 12 33, zf_ic 25, zf_ild 5, zf_i2l, zf_astL, zf_ald 0, zf_ald 0, zf_getR 12 10, zf_ild 1, zf_aldI 100, zf_inv h 12 4 1, zf_if .ne 60, zf_ald 0, zf_ald 0, zf_getI 12 66, zf_ald 0, zf_getI 12 51, zf_ic 0, zf_inv h 12 38 3, zf_ret], 60),
  (60, [zf_ald 0, zf_getL 12 65, zf_lc 0, zf_lcmp, zf_if .eq 78, zf_ild 4, zf_ic 1, zf_ild 5, zf_bit zshl, zf_bit zor, zf_ist 4], 78),
  (78, [zf_inc 5 1, zf_go 14], 84),
  (84, [zf_ald 0, zf_getR 12 33, zf_ic 25, zf_lld 2, zf_astL, zf_ald 0, zf_ic 0, zf_putI 12 40, zf_ic 0, zf_ist 5], 100),
  (100, [zf_ild 5, zf_ald 0, zf_getI 12 28, zf_ic2 .ge 149, zf_ild 4, zf_ild 5, zf_bit zshr, zf_ic 1, zf_bit zand, zf_if .ne 122, zf_go 143], 122),
  (122, [zf_ald 0, zf_getR 12 41, zf_ald 0, zf_getI 12 40, zf_ild 5, zf_astI, zf_ald 0, zf_dup, zf_getI 12 40, zf_ic 1, zf_add, zf_putI 12 40], 143),
  (143, [zf_inc 5 1, zf_go 100], 149),
  (149, [zf_ret], 150)]
theorem zT12_5 (h : Nat) : zTab h 12 5 6 (zt12_5 h) := zTab.mk (ret := none) (bl := xk12_5) (by decide +kernel) (by decide +kernel) rfl rfl
def zt12_6 (h : Nat) : ZB := [(0, [zf_ald 0, zf_getR 12 56, zf_ald 0, zf_getI 12 55, zf_ic 1, zf_sub, zf_ic 10, zf_astI, zf_ald 0, zf_getI 12 42, zf_ic 20, zf_ic2 .ne 23, zf_ret], 23),
  (23, [zf_ald 0, zf_getR 12 43, zf_ald 0, zf_getI 12 42, zf_ild 1, zf_astI, zf_ald 0, zf_dup, zf_getI 12 42, zf_ic 1, zf_add, zf_putI 12 42, zf_ret], 44)]
theorem zT12_6 (h : Nat) : zTab h 12 6 2 (zt12_6 h) := zTab.mk (ret := none) (bl := xk12_6) (by decide +kernel) (by decide +kernel) rfl rfl
def zt12_7 (h : Nat) : ZB := [(0, [zf_ald 0, zf_getR 12 12, zf_ic 26, zf_ald 0, zf_getI 12 3, zf_mul, zf_ild 1, zf_add, zf_aldI 100, zf_ist 2, zf_ild 2, zf_ic (-1), zf_ic2 .ne 32, zf_ald 0, zf_ic 6, zf_ald 0, zf_getI 12 51, zf_ic 0, zf_inv h 12 38 3, zf_ret], 32),
  (32, [zf_ald 0, zf_getI 12 53, zf_ic 2, zf_ic2 .ne 51, zf_ald 0, zf_ic 5, zf_ald 0, zf_getI 12 51, zf_ic 0, zf_inv h 12 38 3, zf_ret], 51),
  (51, [zf_ald 0, zf_getR 12 54, zf_ald 0, zf_getI 12 53, zf_ald 0, zf_getI 12 52, zf_astI, zf_ald 0, zf_dup, zf_getI 12 53, zf_ic 1, zf_add, zf_putI 12 53, zf_ald 0, zf_ild 2, zf_putI 12 52, zf_ret], 80)]
theorem zT12_7 (h : Nat) : zTab h 12 7 3 (zt12_7 h) := zTab.mk (ret := none) (bl := xk12_7) (by decide +kernel) (by decide +kernel) rfl rfl
def zt12_8 (h : Nat) : ZB := [(0, [zf_ald 0, zf_getR 12 22, zf_ald 0, zf_getI 12 21, zf_ic 1, zf_sub, zf_aldI 100, zf_ist 1, zf_ald 0, zf_getR 12 23, zf_ald 0, zf_getI 12 21, zf_ic 1, zf_sub, zf_aldI 100, zf_ist 2, zf_ald 0, zf_getR 12 7, zf_ic 600, zf_ald 0, zf_getI 12 15, zf_mul, zf_ild 2, zf_add, zf_aldI 100, zf_ist 3, zf_ald 0, zf_dup, zf_getI 12 16, zf_ic 1, zf_add, zf_putI 12 16, zf_ald 0, zf_dup, zf_getI 12 21, zf_ic 1, zf_sub, zf_putI 12 21, zf_ild 1, zf_ic 1, zf_ic2 .ne 108, zf_ald 0, zf_inv h 12 36 0, zf_ic 123, zf_ic2 .ne 100, zf_ald 0, zf_ic 17, zf_ild 3, zf_inv h 12 34 2, zf_ist 4, zf_ald 0, zf_ild 2, zf_inv h 12 3 1, zf_ald 0, zf_ic 2, zf_ic 123, zf_ild 4, zf_inv h 12 33 3, zf_go 236], 100),
  (100, [zf_ald 0, zf_ild 2, zf_inv h 12 3 1, zf_go 236], 108),
  (108, [zf_ild 1, zf_ic 2, zf_ic2 .ne 121, zf_ald 0, zf_ild 2, zf_inv h 12 3 1, zf_go 236], 121),
  (121, [zf_ild 1, zf_ic 3, zf_ic2 .ne 160, zf_ald 0, zf_ic 17, zf_ild 3, zf_inv h 12 34 2, zf_ist 4, zf_ald 0, zf_getR 12 11, zf_ic 600, zf_ald 0, zf_getI 12 15, zf_mul, zf_ild 4, zf_add, zf_ild 2, zf_astI, zf_ald 0, zf_ild 2, zf_inv h 12 3 1, zf_go 236], 160),
  (160, [zf_ild 1, zf_ic 4, zf_ic2 .ne 176, zf_ald 0, zf_ic 8, zf_ild 3, zf_inv h 12 34 2, zf_pop, zf_go 236], 176),
  (176, [zf_ild 1, zf_ic 5, zf_ic2 .ne 206, zf_ald 0, zf_ild 2, zf_inv h 12 3 1, zf_ald 0, zf_ic 10, zf_ild 3, zf_inv h 12 34 2, zf_pop, zf_ald 0, zf_ic 6, zf_ic 123, zf_ild 2, zf_inv h 12 33 3, zf_go 236], 206),
  (206, [zf_ild 1, zf_ic 6, zf_ic2 .ne 223, zf_ald 0, zf_ic 11, zf_ild 3, zf_inv h 12 34 2, zf_pop, zf_go 236], 223),
  (223, [zf_ald 0, zf_ic 19, zf_ild 3, zf_inv h 12 34 2, zf_pop, zf_ald 0, zf_ild 2, zf_inv h 12 3 1], 236),
  (236, [zf_ret], 237)]
theorem zT12_8 (h : Nat) : zTab h 12 8 5 (zt12_8 h) := zTab.mk (ret := none) (bl := xk12_8) (by decide +kernel) (by decide +kernel) rfl rfl
def zt12_9 (h : Nat) : ZB := [(0, [zf_ald 0, zf_dup, zf_getI 12 55, zf_ic 1, zf_sub, zf_putI 12 55, zf_ald 0, zf_getI 12 55, zf_ist 1, zf_ald 0, zf_getR 12 59, zf_ild 1, zf_aldI 100, zf_if .eq 46, zf_ald 0, zf_ald 0, zf_getR 12 59, zf_ild 1, zf_aldI 100, zf_ald 0, zf_getR 12 60, zf_ild 1, zf_aldI 100, zf_ald 0, zf_getR 12 61, zf_ild 1, zf_aldI 100, zf_inv h 12 38 3], 46),
  (46, [zf_ret], 47)]
theorem zT12_9 (h : Nat) : zTab h 12 9 2 (zt12_9 h) := zTab.mk (ret := none) (bl := xk12_9) (by decide +kernel) (by decide +kernel) rfl rfl
def zt12_10 (h : Nat) : ZB := [(0, [zf_ald 0, zf_getR 12 13, zf_ic 1000, zf_ald 0, zf_getI 12 15, zf_mul, zf_ald 0, zf_getI 12 19, zf_add, zf_ild 1, zf_astI, zf_ald 0, zf_getR 12 14, zf_ic 1000, zf_ald 0, zf_getI 12 15, zf_mul, zf_ald 0, zf_getI 12 19, zf_add, zf_ild 2, zf_astI, zf_ald 0, zf_dup, zf_getI 12 19, zf_ic 1, zf_add, zf_putI 12 19, zf_ret], 49)]
theorem zT12_10 (h : Nat) : zTab h 12 10 3 (zt12_10 h) := zTab.mk (ret := none) (bl := xk12_10) (by decide +kernel) (by decide +kernel) rfl rfl
def zt12_11 (h : Nat) : ZB := [(0, [zf_ald 0, zf_getI 12 17, zf_ic (-1), zf_ic2 .ne 170, zf_ald 0, zf_getI 12 25, zf_if .le 170, zf_ald 0, zf_getR 12 26, zf_ald 0, zf_getI 12 25, zf_ic 1, zf_sub, zf_aldI 100, zf_ic 95, zf_ic2 .eq 63, zf_ald 0, zf_getR 12 26, zf_ald 0, zf_getI 12 25, zf_ic 1, zf_sub, zf_aldI 100, zf_ic 39, zf_ic2 .eq 63, zf_ald 0, zf_getR 12 26, zf_ald 0, zf_getI 12 25, zf_ic 1, zf_sub, zf_aldI 100, zf_ic 64, zf_ic2 .ne 170], 63),
  (63, [zf_ald 0, zf_getR 12 26, zf_ald 0, zf_getI 12 25, zf_ic 1, zf_sub, zf_aldI 100, zf_ist 1, zf_ic 0, zf_ist 2, zf_ild 1, zf_ic 64, zf_ic2 .ne 132, zf_ald 0, zf_ic 58, zf_inv h 12 16 1, zf_ald 0, zf_inv h 12 36 0, zf_ic 48, zf_sub, zf_ist 2, zf_ald 0, zf_getI 12 17, zf_ic (-1), zf_ic2 .ne 122, zf_ild 2, zf_if .lt 114, zf_ild 2, zf_ic 5, zf_ic2 .le 122], 114),
  (114, [zf_ald 0, zf_ald 0, zf_getI 12 16, zf_putI 12 17], 122),
  (122, [zf_ald 0, zf_dup, zf_getI 12 16, zf_ic 1, zf_add, zf_putI 12 16], 132),
  (132, [zf_ald 0, zf_getI 12 17, zf_ic (-1), zf_ic2 .eq 141, zf_ret], 141),
  (141, [zf_ald 0, zf_ild 1, zf_ild 2, zf_inv h 12 10 2, zf_ald 0, zf_dup, zf_getI 12 25, zf_ic 1, zf_sub, zf_putI 12 25, zf_ald 0, zf_dup, zf_getI 12 27, zf_ic 1, zf_sub, zf_putI 12 27, zf_go 0], 170),
  (170, [zf_ret], 171)]
theorem zT12_11 (h : Nat) : zTab h 12 11 3 (zt12_11 h) := zTab.mk (ret := none) (bl := xk12_11) (by decide +kernel) (by decide +kernel) rfl rfl
def zt12_12 (h : Nat) : ZB := [(0, [zf_ald 0, zf_getI 12 25, zf_if .le 52, zf_ald 0, zf_getR 12 26, zf_ald 0, zf_getI 12 25, zf_ic 1, zf_sub, zf_aldI 100, zf_inst h 12 52 1, zf_ild 1, zf_ic2 .lt 52, zf_ald 0, zf_dup, zf_getI 12 25, zf_ic 1, zf_sub, zf_putI 12 25, zf_ald 0, zf_ald 0, zf_getR 12 26, zf_ald 0, zf_getI 12 25, zf_aldI 100, zf_ic 0, zf_inv h 12 10 2, zf_go 0], 52),
  (52, [zf_ret], 53)]
theorem zT12_12 (h : Nat) : zTab h 12 12 2 (zt12_12 h) := zTab.mk (ret := none) (bl := xk12_12) (by decide +kernel) (by decide +kernel) rfl rfl
def zt12_13 (h : Nat) : ZB := [(0, [zf_ald 0, zf_ic 0, zf_putI 12 1, zf_ald 0, zf_ic 0, zf_putI 12 28, zf_ald 0, zf_ic 0, zf_putI 12 30, zf_ald 0, zf_ic (-1), zf_putI 12 32, zf_ic 0, zf_ist 1], 22),
  (22, [zf_ild 1, zf_ic 2, zf_ic2 .ge 40, zf_ald 0, zf_getR 12 4, zf_ild 1, zf_ic 0, zf_astI, zf_inc 1 1, zf_go 22], 40),
  (40, [zf_ald 0, zf_getR 12 6, zf_ic 600, zf_ald 0, zf_getI 12 3, zf_mul, zf_ic 20, zf_astI, zf_ald 0, zf_inv h 12 18 0, zf_ret], 60)]
theorem zT12_13 (h : Nat) : zTab h 12 13 2 (zt12_13 h) := zTab.mk (ret := none) (bl := xk12_13) (by decide +kernel) (by decide +kernel) rfl rfl
def zt12_14 (h : Nat) : ZB := [(0, [zf_ald 0, zf_getI 12 32, zf_ic (-1), zf_ic2 .eq 37, zf_ald 0, zf_getR 12 58, zf_ald 0, zf_getI 12 55, zf_ic 1, zf_sub, zf_aldI 100, zf_ald 0, zf_getI 12 32, zf_ic2 .ne 37, zf_ald 0, zf_ic 7, zf_ild 1, zf_ic 0, zf_inv h 12 38 3, zf_go 47], 37),
  (37, [zf_ald 0, zf_dup, zf_getI 12 55, zf_ic 1, zf_sub, zf_putI 12 55], 47),
  (47, [zf_ret], 48)]
theorem zT12_14 (h : Nat) : zTab h 12 14 2 (zt12_14 h) := zTab.mk (ret := none) (bl := xk12_14) (by decide +kernel) (by decide +kernel) rfl rfl
def zt12_15 (h : Nat) : ZB := [(0, [zf_ald 0, zf_ild 1, zf_if .lt 14, zf_ild 1, zf_ic 3, zf_ic2 .ge 14, zf_ic 0, zf_go 15], 14),
  (14, [zf_ic 1], 15),
  (15, [zf_putI 12 0, zf_ald 0, zf_getI 12 0, zf_if .eq 27, zf_ic 0, zf_reti], 27),
  (27, [zf_ild 1, zf_if .ne 38, zf_ald 0, zf_getI 12 46, zf_go 54], 38),
  (38, [zf_ild 1, zf_ic 1, zf_ic2 .ne 50, zf_ald 0, zf_getI 12 47, zf_go 54], 50),
  (50, [zf_ald 0, zf_getI 12 48], 54),
  (54, [zf_reti], 55)]
theorem zT12_15 (h : Nat) : zTab h 12 15 2 (zt12_15 h) := zTab.mk (ret := (some .int)) (bl := xk12_15) (by decide +kernel) (by decide +kernel) rfl rfl
def zt12_16 (h : Nat) : ZB := [(0, [zf_ald 0, zf_getI 12 17, zf_ic (-1), zf_ic2 .eq 9, zf_ret], 9),
  (9, [zf_ald 0, zf_inv h 12 36 0, zf_ild 1, zf_ic2 .ne 30, zf_ald 0, zf_dup, zf_getI 12 16, zf_ic 1, zf_add, zf_putI 12 16, zf_go 38], 30),
  (30, [zf_ald 0, zf_ald 0, zf_getI 12 16, zf_putI 12 17], 38),
  (38, [zf_ret], 39)]
theorem zT12_16 (h : Nat) : zTab h 12 16 2 (zt12_16 h) := zTab.mk (ret := none) (bl := xk12_16) (by decide +kernel) (by decide +kernel) rfl rfl
def zt12_17 (h : Nat) : ZB := [(0, [zf_ald 0, zf_ald 0, zf_ild 1, zf_ild 2, zf_inv h 12 25 2, zf_if .eq 14, zf_ic 0, zf_go 15], 14),
  (14, [zf_ic 1], 15),
  (15, [zf_putI 12 0, zf_ald 0, zf_getI 12 0, zf_if .ne 41, zf_ald 0, zf_getR 12 29, zf_ic 6, zf_ild 1, zf_mul, zf_ild 2, zf_add, zf_aldL, zf_lld 3, zf_lcmp, zf_if .ne 43], 41),
  (41, [zf_ic 0, zf_retz], 43),
  (43, [zf_ald 0, zf_getR 12 29, zf_ic 6, zf_ild 1, zf_mul, zf_ild 2, zf_add, zf_lld 3, zf_astL, zf_ic 1, zf_retz], 57)]
theorem zT12_17 (h : Nat) : zTab h 12 17 5 (zt12_17 h) := zTab.mk (ret := (some .boolean)) (bl := xk12_17) (by decide +kernel) (by decide +kernel) rfl rfl
def zt12_18 (h : Nat) : ZB := [(0, [zf_ic 0, zf_ist 1], 2),
  (2, [zf_ild 1, zf_ic 26, zf_ic2 .ge 21, zf_ald 0, zf_getR 12 33, zf_ild 1, zf_lc 0, zf_astL, zf_inc 1 1, zf_go 2], 21),
  (21, [zf_ald 0, zf_lc 0, zf_putL 12 35, zf_ald 0, zf_ic 0, zf_putI 12 36, zf_ald 0, zf_ic 0, zf_putI 12 38, zf_ald 0, zf_ic 0, zf_putI 12 40, zf_ald 0, zf_ic 0, zf_putI 12 42, zf_ald 0, zf_ic 0, zf_putZ 12 44, zf_ald 0, zf_ic 0, zf_putI 12 45, zf_ald 0, zf_ic 0, zf_putI 12 46, zf_ald 0, zf_ic (-1), zf_putI 12 47, zf_ald 0, zf_ic 0, zf_putI 12 48, zf_ret], 72)]
theorem zT12_18 (h : Nat) : zTab h 12 18 2 (zt12_18 h) := zTab.mk (ret := none) (bl := xk12_18) (by decide +kernel) (by decide +kernel) rfl rfl
def zt12_19 (h : Nat) : ZB := [(0, [zf_ald 0, zf_getI 12 55, zf_ist 3, zf_ald 0, zf_getR 12 56, zf_ild 3, zf_ild 1, zf_astI, zf_ald 0, zf_getR 12 57, zf_ild 3, zf_ald 0, zf_getI 12 53, zf_astI, zf_ald 0, zf_getR 12 58, zf_ild 3, zf_ild 2, zf_astI, zf_ald 0, zf_getR 12 59, zf_ild 3, zf_ic 0, zf_astI, zf_ald 0, zf_getR 12 63, zf_ild 3, zf_ald 0, zf_getI 12 28, zf_astI, zf_ic 0, zf_ist 4], 49),
  (49, [zf_ild 4, zf_ic 72, zf_ic2 .ge 87, zf_ild 1, zf_ic 7, zf_ic2 .ne 87, zf_ald 0, zf_getR 12 62, zf_ic 72, zf_ild 3, zf_mul, zf_ild 4, zf_add, zf_ald 0, zf_getR 12 29, zf_ild 4, zf_aldL, zf_astL, zf_inc 4 1, zf_go 49], 87),
  (87, [zf_ald 0, zf_dup, zf_getI 12 55, zf_ic 1, zf_add, zf_putI 12 55, zf_ret], 98)]
theorem zT12_19 (h : Nat) : zTab h 12 19 5 (zt12_19 h) := zTab.mk (ret := none) (bl := xk12_19) (by decide +kernel) (by decide +kernel) rfl rfl
def zt12_20 (h : Nat) : ZB := [(0, [zf_ald 0, zf_getI 12 25, zf_ic 1, zf_sub, zf_ist 1], 7),
  (7, [zf_ild 1, zf_if .lt 43, zf_ald 0, zf_getR 12 26, zf_ild 1, zf_aldI 100, zf_ic 40, zf_ic2 .eq 43, zf_ald 0, zf_getR 12 26, zf_ild 1, zf_aldI 100, zf_inst h 12 52 1, zf_ic 1, zf_ic2 .ne 37, zf_ic 1, zf_retz], 37),
  (37, [zf_inc 1 (-1), zf_go 7], 43),
  (43, [zf_ic 0, zf_retz], 45)]
theorem zT12_20 (h : Nat) : zTab h 12 20 2 (zt12_20 h) := zTab.mk (ret := (some .boolean)) (bl := xk12_20) (by decide +kernel) (by decide +kernel) rfl rfl
def zt12_21 (h : Nat) : ZB := [(0, [zf_ic 0, zf_ist 1, zf_ic 0, zf_ist 2], 4),
  (4, [zf_ild 2, zf_ald 0, zf_getI 12 25, zf_ic2 .ge 39, zf_ild 1, zf_if .ne 27, zf_ald 0, zf_getR 12 26, zf_ild 2, zf_aldI 100, zf_ic 40, zf_ic2 .ne 31], 27),
  (27, [zf_ic 1, zf_go 32], 31),
  (31, [zf_ic 0], 32),
  (32, [zf_ist 1, zf_inc 2 1, zf_go 4], 39),
  (39, [zf_ild 1, zf_retz], 41)]
theorem zT12_21 (h : Nat) : zTab h 12 21 3 (zt12_21 h) := zTab.mk (ret := (some .boolean)) (bl := xk12_21) (by decide +kernel) (by decide +kernel) rfl rfl
def zt12_23 (h : Nat) : ZB := [(0, [zf_ild 0, zf_ic 48, zf_ic2 .lt 16, zf_ild 0, zf_ic 57, zf_ic2 .gt 16, zf_ic 1, zf_go 17], 16),
  (16, [zf_ic 0], 17),
  (17, [zf_retz], 18)]
theorem zT12_23 (h : Nat) : zTab h 12 23 1 (zt12_23 h) := zTab.mk (ret := (some .boolean)) (bl := xk12_23) (by decide +kernel) (by decide +kernel) rfl rfl
def zt12_24 (h : Nat) : ZB := [(0, [zf_ald 0, zf_getI 12 21, zf_if .le 40, zf_ald 0, zf_inv h 12 36 0, zf_ald 0, zf_getR 12 22, zf_ald 0, zf_getI 12 21, zf_ic 1, zf_sub, zf_aldI 100, zf_ic 4, zf_ic2 .ne 31, zf_ic 93, zf_go 33], 31),
  (31, [zf_ic 125], 33),
  (33, [zf_ic2 .ne 40, zf_ic 1, zf_go 41], 40),
  (40, [zf_ic 0], 41),
  (41, [zf_retz], 42)]
theorem zT12_24 (h : Nat) : zTab h 12 24 1 (zt12_24 h) := zTab.mk (ret := (some .boolean)) (bl := xk12_24) (by decide +kernel) (by decide +kernel) rfl rfl
def zt12_25 (h : Nat) : ZB := [(0, [zf_ald 0, zf_ild 1, zf_i2l, zf_inv h 12 28 1, zf_if .eq 23, zf_ild 2, zf_if .lt 23, zf_ild 2, zf_ic 6, zf_ic2 .ge 23, zf_ic 1, zf_go 24], 23),
  (23, [zf_ic 0], 24),
  (24, [zf_retz], 25)]
theorem zT12_25 (h : Nat) : zTab h 12 25 3 (zt12_25 h) := zTab.mk (ret := (some .boolean)) (bl := xk12_25) (by decide +kernel) (by decide +kernel) rfl rfl
def zt12_26 (h : Nat) : ZB := [(0, [zf_ild 0, zf_ic 65, zf_ic2 .lt 16, zf_ild 0, zf_ic 90, zf_ic2 .gt 16, zf_ic 1, zf_go 17], 16),
  (16, [zf_ic 0], 17),
  (17, [zf_retz], 18)]
theorem zT12_26 (h : Nat) : zTab h 12 26 1 (zt12_26 h) := zTab.mk (ret := (some .boolean)) (bl := xk12_26) (by decide +kernel) (by decide +kernel) rfl rfl
def zt12_27 (h : Nat) : ZB := [(0, [zf_ild 0, zf_ic 45, zf_ic2 .eq 24, zf_ild 0, zf_ic 40, zf_ic2 .eq 24, zf_ild 0, zf_ic 64, zf_ic2 .eq 24, zf_ild 0, zf_ic 39, zf_ic2 .ne 28], 24),
  (24, [zf_ic 1, zf_go 29], 28),
  (28, [zf_ic 0], 29),
  (29, [zf_retz], 30)]
theorem zT12_27 (h : Nat) : zTab h 12 27 1 (zt12_27 h) := zTab.mk (ret := (some .boolean)) (bl := xk12_27) (by decide +kernel) (by decide +kernel) rfl rfl
def zt12_28 (h : Nat) : ZB := [(0, [zf_lld 1, zf_lc 0, zf_lcmp, zf_if .lt 20, zf_lld 1, zf_ald 0, zf_getI 12 28, zf_i2l, zf_lcmp, zf_if .ge 20, zf_ic 1, zf_go 21], 20),
  (20, [zf_ic 0], 21),
  (21, [zf_retz], 22)]
theorem zT12_28 (h : Nat) : zTab h 12 28 3 (zt12_28 h) := zTab.mk (ret := (some .boolean)) (bl := xk12_28) (by decide +kernel) (by decide +kernel) rfl rfl
def zt12_29 (h : Nat) : ZB := [(0, [zf_ild 0, zf_ic 97, zf_ic2 .lt 16, zf_ild 0, zf_ic 122, zf_ic2 .gt 16, zf_ic 1, zf_go 17], 16),
  (16, [zf_ic 0], 17),
  (17, [zf_retz], 18)]
theorem zT12_29 (h : Nat) : zTab h 12 29 1 (zt12_29 h) := zTab.mk (ret := (some .boolean)) (bl := xk12_29) (by decide +kernel) (by decide +kernel) rfl rfl
def zt12_30 (h : Nat) : ZB := [(0, [zf_lld 1, zf_lc 0, zf_lcmp, zf_if .lt 14, zf_lld 1, zf_lc 20, zf_lcmp, zf_if .le 16], 14),
  (14, [zf_ic 0, zf_retz], 16),
  (16, [zf_ald 0, zf_lld 1, zf_l2i, zf_putI 12 30, zf_ic 0, zf_ist 3], 24),
  (24, [zf_ild 3, zf_ic 20, zf_ic2 .ge 43, zf_ald 0, zf_getR 12 31, zf_ild 3, zf_lc 0, zf_astL, zf_inc 3 1, zf_go 24], 43),
  (43, [zf_ic 1, zf_retz], 45)]
theorem zT12_30 (h : Nat) : zTab h 12 30 4 (zt12_30 h) := zTab.mk (ret := (some .boolean)) (bl := xk12_30) (by decide +kernel) (by decide +kernel) rfl rfl
def zt12_31 (h : Nat) : ZB := [(0, [zf_ald 0, zf_getI 12 27, zf_ic 3, zf_ic2 .ne 17, zf_ald 0, zf_ald 0, zf_getI 12 16, zf_putI 12 17, zf_ret], 17),
  (17, [zf_ald 0, zf_getR 12 26, zf_ald 0, zf_getI 12 25, zf_ild 1, zf_ic 45, zf_ic2 .ne 36, zf_ic 95, zf_go 37], 36),
  (36, [zf_ild 1], 37),
  (37, [zf_astI, zf_ald 0, zf_dup, zf_getI 12 25, zf_ic 1, zf_add, zf_putI 12 25, zf_ald 0, zf_dup, zf_getI 12 27, zf_ic 1, zf_add, zf_putI 12 27, zf_ald 0, zf_dup, zf_getI 12 16, zf_ic 1, zf_add, zf_putI 12 16, zf_ret], 69)]
theorem zT12_31 (h : Nat) : zTab h 12 31 2 (zt12_31 h) := zTab.mk (ret := none) (bl := xk12_31) (by decide +kernel) (by decide +kernel) rfl rfl
def zt12_32 (h : Nat) : ZB := [(0, [zf_ald 0, zf_ic 0, zf_putI 12 0, zf_ald 0, zf_ild 1, zf_i2l, zf_inv h 12 1 1, zf_reti], 12)]
theorem zT12_32 (h : Nat) : zTab h 12 32 2 (zt12_32 h) := zTab.mk (ret := (some .int)) (bl := xk12_32) (by decide +kernel) (by decide +kernel) rfl rfl
def zt12_33 (h : Nat) : ZB := [(0, [zf_ald 0, zf_getI 12 17, zf_ic (-1), zf_ic2 .eq 9, zf_ret], 9),
  (9, [zf_ald 0, zf_inv h 12 36 0, zf_ild 2, zf_ic2 .ne 25, zf_ald 0, zf_getI 12 21, zf_ic 2, zf_ic2 .ne 34], 25),
  (25, [zf_ald 0, zf_ald 0, zf_getI 12 16, zf_putI 12 17, zf_ret], 34),
  (34, [zf_ald 0, zf_dup, zf_getI 12 16, zf_ic 1, zf_add, zf_putI 12 16, zf_ald 0, zf_getR 12 22, zf_ald 0, zf_getI 12 21, zf_ild 1, zf_astI, zf_ald 0, zf_getR 12 23, zf_ald 0, zf_getI 12 21, zf_ild 3, zf_astI, zf_ald 0, zf_dup, zf_getI 12 21, zf_ic 1, zf_add, zf_putI 12 21, zf_ret], 75)]
theorem zT12_33 (h : Nat) : zTab h 12 33 4 (zt12_33 h) := zTab.mk (ret := none) (bl := xk12_33) (by decide +kernel) (by decide +kernel) rfl rfl
def zt12_34 (h : Nat) : ZB := [(0, [zf_ic 600, zf_ald 0, zf_getI 12 15, zf_mul, zf_ald 0, zf_getI 12 18, zf_add, zf_ist 3, zf_ald 0, zf_getR 12 6, zf_ild 3, zf_ild 1, zf_astI, zf_ald 0, zf_getR 12 7, zf_ild 3, zf_ild 2, zf_astI, zf_ald 0, zf_getR 12 8, zf_ild 3, zf_ic 0, zf_astI, zf_ald 0, zf_getR 12 9, zf_ild 3, zf_ic 0, zf_astI, zf_ald 0, zf_getR 12 10, zf_ild 3, zf_ic 0, zf_astI, zf_ald 0, zf_getR 12 11, zf_ild 3, zf_ic 0, zf_astI, zf_ald 0, zf_dup, zf_getI 12 18, zf_ic 1, zf_add, zf_putI 12 18, zf_ald 0, zf_getI 12 18, zf_ic 1, zf_sub, zf_reti], 73)]
theorem zT12_34 (h : Nat) : zTab h 12 34 4 (zt12_34 h) := zTab.mk (ret := (some .int)) (bl := xk12_34) (by decide +kernel) (by decide +kernel) rfl rfl
def zt12_35 (h : Nat) : ZB := [(0, [zf_ald 0, zf_ild 1, zf_if .lt 17, zf_ild 1, zf_ald 0, zf_getI 12 36, zf_ic2 .ge 17, zf_ic 0, zf_go 18], 17),
  (17, [zf_ic 1], 18),
  (18, [zf_putI 12 0, zf_ald 0, zf_getI 12 0, zf_if .ne 37, zf_ald 0, zf_getR 12 37, zf_ild 1, zf_aldI 100, zf_go 38], 37),
  (37, [zf_ic 0], 38),
  (38, [zf_reti], 39)]
theorem zT12_35 (h : Nat) : zTab h 12 35 2 (zt12_35 h) := zTab.mk (ret := (some .int)) (bl := xk12_35) (by decide +kernel) (by decide +kernel) rfl rfl
def zt12_36 (h : Nat) : ZB := [(0, [zf_ald 0, zf_getI 12 16, zf_ald 0, zf_getI 12 1, zf_ic2 .ge 23, zf_ald 0, zf_getR 12 2, zf_ald 0, zf_getI 12 16, zf_aldI 100, zf_go 24], 23),
  (23, [zf_ic (-1)], 24),
  (24, [zf_reti], 25)]
theorem zT12_36 (h : Nat) : zTab h 12 36 1 (zt12_36 h) := zTab.mk (ret := (some .int)) (bl := xk12_36) (by decide +kernel) (by decide +kernel) rfl rfl
def zt12_37 (h : Nat) : ZB := [(0, [zf_ald 0, zf_ald 0, zf_getR 12 63, zf_ild 1, zf_aldI 100, zf_putI 12 28, zf_ic 0, zf_ist 2], 12),
  (12, [zf_ild 2, zf_ic 72, zf_ic2 .ge 41, zf_ald 0, zf_getR 12 29, zf_ild 2, zf_ald 0, zf_getR 12 62, zf_ic 72, zf_ild 1, zf_mul, zf_ild 2, zf_add, zf_aldL, zf_astL, zf_inc 2 1, zf_go 12], 41),
  (41, [zf_ald 0, zf_ic 1, zf_putZ 12 44, zf_ret], 47)]
theorem zT12_37 (h : Nat) : zTab h 12 37 3 (zt12_37 h) := zTab.mk (ret := none) (bl := xk12_37) (by decide +kernel) (by decide +kernel) rfl rfl
def zt12_38 (h : Nat) : ZB := [(0, [zf_ild 1, zf_ist 4], 3),
  (3, [zf_ald 0, zf_getI 12 55, zf_if .le 126, zf_ald 0, zf_dup, zf_getI 12 55, zf_ic 1, zf_sub, zf_putI 12 55, zf_ald 0, zf_getI 12 55, zf_ist 5, zf_ald 0, zf_ald 0, zf_getR 12 57, zf_ild 5, zf_aldI 100, zf_putI 12 53, zf_ald 0, zf_getR 12 56, zf_ild 5, zf_aldI 100, zf_ic 7, zf_ic2 .ne 55, zf_ald 0, zf_ild 5, zf_inv h 12 37 1], 55),
  (55, [zf_ald 0, zf_getR 12 56, zf_ild 5, zf_aldI 100, zf_ic 9, zf_ic2 .eq 70, zf_go 3], 70),
  (70, [zf_ald 0, zf_getR 12 56, zf_ild 5, zf_ic 10, zf_astI, zf_ald 0, zf_getR 12 59, zf_ild 5, zf_ild 4, zf_astI, zf_ald 0, zf_getR 12 60, zf_ild 5, zf_ild 2, zf_astI, zf_ald 0, zf_getR 12 61, zf_ild 5, zf_ild 3, zf_astI, zf_ald 0, zf_dup, zf_getI 12 55, zf_ic 1, zf_add, zf_putI 12 55, zf_ald 0, zf_ald 0, zf_getR 12 58, zf_ild 5, zf_aldI 100, zf_putI 12 52, zf_ret], 126),
  (126, [zf_ald 0, zf_ild 4, zf_putI 12 46, zf_ald 0, zf_ild 2, zf_putI 12 47, zf_ald 0, zf_ild 3, zf_putI 12 48, zf_ald 0, zf_ic 1, zf_putI 12 50, zf_ald 0, zf_ic 1, zf_putZ 12 49, zf_ret], 153)]
theorem zT12_38 (h : Nat) : zTab h 12 38 6 (zt12_38 h) := zTab.mk (ret := none) (bl := xk12_38) (by decide +kernel) (by decide +kernel) rfl rfl
def zt12_39 (h : Nat) : ZB := [(0, [zf_ald 0, zf_ic 0, zf_putI 12 0, zf_ald 0, zf_ic 1, zf_ald 0, zf_getI 12 3, zf_sub, zf_putI 12 15, zf_ald 0, zf_ic 0, zf_putI 12 16, zf_ald 0, zf_ic (-1), zf_putI 12 17, zf_ald 0, zf_ic 0, zf_putI 12 18, zf_ald 0, zf_ic 0, zf_putI 12 19, zf_ald 0, zf_ic 0, zf_putI 12 20, zf_ald 0, zf_ic 0, zf_putI 12 21, zf_ic 0, zf_ist 1], 47),
  (47, [zf_ild 1, zf_ic 26, zf_ic2 .ge 74, zf_ald 0, zf_getR 12 12, zf_ic 26, zf_ald 0, zf_getI 12 15, zf_mul, zf_ild 1, zf_add, zf_ic (-1), zf_astI, zf_inc 1 1, zf_go 47], 74),
  (74, [zf_ald 0, zf_getI 12 17, zf_ic (-1), zf_ic2 .ne 172, zf_ald 0, zf_getI 12 16, zf_ald 0, zf_getI 12 1, zf_ic2 .lt 100, zf_ald 0, zf_getI 12 21, zf_if .le 172], 100),
  (100, [zf_ald 0, zf_inv h 12 36 0, zf_ic 10, zf_ic2 .ne 122, zf_ald 0, zf_dup, zf_getI 12 16, zf_ic 1, zf_add, zf_putI 12 16, zf_go 100], 122),
  (122, [zf_ald 0, zf_inv h 12 24 0, zf_if .eq 136, zf_ald 0, zf_inv h 12 8 0, zf_go 74], 136),
  (136, [zf_ald 0, zf_getI 12 16, zf_ald 0, zf_getI 12 1, zf_ic2 .ge 154, zf_ald 0, zf_inv h 12 46 0, zf_go 74], 154),
  (154, [zf_ald 0, zf_getI 12 21, zf_if .le 74, zf_ald 0, zf_ald 0, zf_getI 12 16, zf_putI 12 17, zf_go 74], 172),
  (172, [zf_ald 0, zf_getI 12 1, zf_ist 1, zf_ald 0, zf_ic 0, zf_putI 12 1, zf_ald 0, zf_getI 12 17, zf_ic (-1), zf_ic2 .eq 197, zf_ic (-1), zf_ald 0, zf_getI 12 17, zf_sub, zf_reti], 197),
  (197, [zf_ald 0, zf_ic 20, zf_ic 0, zf_inv h 12 34 2, zf_pop, zf_ic 0, zf_ist 2], 207),
  (207, [zf_ild 2, zf_ild 1, zf_ic2 .ge 239, zf_ald 0, zf_getR 12 5, zf_ic 400, zf_ald 0, zf_getI 12 15, zf_mul, zf_ild 2, zf_add, zf_ald 0, zf_getR 12 2, zf_ild 2, zf_aldI 100, zf_astI, zf_inc 2 1, zf_go 207], 239),
  (239, [zf_ald 0, zf_getR 12 4, zf_ald 0, zf_getI 12 15, zf_ild 1, zf_astI, zf_ald 0, zf_ald 0, zf_getI 12 15, zf_putI 12 3, zf_ald 0, zf_inv h 12 18 0, zf_ald 0, zf_getI 12 20, zf_reti], 266)]
theorem zT12_39 (h : Nat) : zTab h 12 39 3 (zt12_39 h) := zTab.mk (ret := (some .int)) (bl := xk12_39) (by decide +kernel) (by decide +kernel) rfl rfl
def zt12_40 (h : Nat) : ZB := [(0, [zf_ald 0, zf_dup, zf_getI 12 16, zf_ic 1, zf_add, zf_putI 12 16, zf_ald 0, zf_ild 1, zf_ild 3, zf_inv h 12 34 2, zf_ist 4, zf_ald 0, zf_getR 12 10, zf_ic 600, zf_ald 0, zf_getI 12 15, zf_mul, zf_ild 4, zf_add, zf_ald 0, zf_ic 1, zf_inv h 12 41 1, zf_astI, zf_ald 0, zf_ild 2, zf_ic 123, zf_ild 4, zf_inv h 12 33 3, zf_ret], 49)]
theorem zT12_40 (h : Nat) : zTab h 12 40 5 (zt12_40 h) := zTab.mk (ret := none) (bl := xk12_40) (by decide +kernel) (by decide +kernel) rfl rfl
def zt12_41 (h : Nat) : ZB := [(0, [zf_ald 0, zf_getI 12 19, zf_ist 2, zf_ald 0, zf_ic 0, zf_putI 12 25, zf_ald 0, zf_ic 0, zf_putI 12 27, zf_ic 1, zf_ist 3, zf_ic 1, zf_ist 4], 20),
  (20, [zf_ald 0, zf_getI 12 17, zf_ic (-1), zf_ic2 .ne 246, zf_ild 3, zf_if .eq 246, zf_ald 0, zf_inv h 12 36 0, zf_ist 5, zf_ild 4, zf_if .eq 60, zf_ild 5, zf_inst h 12 27 1, zf_if .eq 60, zf_ald 0, zf_ild 5, zf_inv h 12 31 1, zf_go 243], 60),
  (60, [zf_ild 4, zf_if .eq 75, zf_ald 0, zf_inv h 12 43 0, zf_ic 0, zf_ist 4, zf_go 243], 75),
  (75, [zf_ald 0, zf_getI 12 25, zf_if .ne 91, zf_ild 1, zf_if .ne 91, zf_ic 0, zf_ist 3, zf_go 243], 91),
  (91, [zf_ild 5, zf_inst h 12 52 1, zf_ic 1, zf_ic2 .gt 116, zf_ild 5, zf_inst h 12 52 1, zf_ic 1, zf_ic2 .ne 162, zf_ald 0, zf_inv h 12 20 0, zf_if .ne 162], 116),
  (116, [zf_ald 0, zf_ild 5, zf_inst h 12 52 1, zf_inv h 12 12 1, zf_ald 0, zf_getR 12 26, zf_ald 0, zf_getI 12 25, zf_ild 5, zf_astI, zf_ald 0, zf_dup, zf_getI 12 25, zf_ic 1, zf_add, zf_putI 12 25, zf_ald 0, zf_dup, zf_getI 12 16, zf_ic 1, zf_add, zf_putI 12 16, zf_ic 1, zf_ist 4, zf_go 243], 162),
  (162, [zf_ild 5, zf_ic 41, zf_ic2 .ne 218, zf_ald 0, zf_inv h 12 21 0, zf_if .eq 218, zf_ald 0, zf_ic 1, zf_inv h 12 12 1, zf_ald 0, zf_dup, zf_getI 12 25, zf_ic 1, zf_sub, zf_putI 12 25, zf_ald 0, zf_dup, zf_getI 12 27, zf_ic 1, zf_sub, zf_putI 12 27, zf_ald 0, zf_dup, zf_getI 12 16, zf_ic 1, zf_add, zf_putI 12 16, zf_ald 0, zf_inv h 12 11 0, zf_go 243], 218),
  (218, [zf_ald 0, zf_inv h 12 21 0, zf_if .eq 236, zf_ald 0, zf_ald 0, zf_getI 12 16, zf_putI 12 17, zf_go 243], 236),
  (236, [zf_ald 0, zf_ic 1, zf_inv h 12 12 1, zf_ic 0, zf_ist 3], 243),
  (243, [zf_go 20], 246),
  (246, [zf_ald 0, zf_getI 12 17, zf_ic (-1), zf_ic2 .ne 260, zf_ald 0, zf_ic 0, zf_ic 0, zf_inv h 12 10 2], 260),
  (260, [zf_ild 2, zf_reti], 262)]
theorem zT12_41 (h : Nat) : zTab h 12 41 6 (zt12_41 h) := zTab.mk (ret := (some .int)) (bl := xk12_41) (by decide +kernel) (by decide +kernel) rfl rfl
def zt12_42 (h : Nat) : ZB := [(0, [zf_ald 0, zf_dup, zf_getI 12 16, zf_ic 1, zf_add, zf_putI 12 16, zf_ald 0, zf_inv h 12 36 0, zf_ic 65, zf_sub, zf_ist 2, zf_ald 0, zf_inv h 12 36 0, zf_inst h 12 26 1, zf_if .ne 37, zf_ald 0, zf_ald 0, zf_getI 12 16, zf_putI 12 17, zf_ret], 37),
  (37, [zf_ald 0, zf_getI 12 21, zf_if .gt 62, zf_ald 0, zf_getR 12 12, zf_ic 26, zf_ald 0, zf_getI 12 15, zf_mul, zf_ild 2, zf_add, zf_aldI 100, zf_ic (-1), zf_ic2 .eq 68], 62),
  (62, [zf_ald 0, zf_ild 1, zf_putI 12 17, zf_ret], 68),
  (68, [zf_ald 0, zf_dup, zf_getI 12 16, zf_ic 1, zf_add, zf_putI 12 16, zf_ald 0, zf_ic 17, zf_ild 1, zf_inv h 12 34 2, zf_ist 3, zf_ald 0, zf_getR 12 12, zf_ic 26, zf_ald 0, zf_getI 12 15, zf_mul, zf_ild 2, zf_add, zf_ald 0, zf_getI 12 18, zf_astI, zf_ald 0, zf_ic 7, zf_ic 123, zf_ild 3, zf_inv h 12 33 3, zf_ret], 114)]
theorem zT12_42 (h : Nat) : zTab h 12 42 4 (zt12_42 h) := zTab.mk (ret := none) (bl := xk12_42) (by decide +kernel) (by decide +kernel) rfl rfl
def zt12_43 (h : Nat) : ZB := [(0, [zf_ald 0, zf_inv h 12 36 0, zf_ist 1, zf_ild 1, zf_inst h 12 23 1, zf_if .eq 70, zf_ic 0, zf_ist 2, zf_ic 0, zf_ist 3], 16),
  (16, [zf_ild 3, zf_ic 4, zf_ic2 .ge 60, zf_ald 0, zf_inv h 12 36 0, zf_inst h 12 23 1, zf_if .eq 60, zf_ic 10, zf_ild 2, zf_mul, zf_ald 0, zf_inv h 12 36 0, zf_add, zf_ic 48, zf_sub, zf_ist 2, zf_ald 0, zf_dup, zf_getI 12 16, zf_ic 1, zf_add, zf_putI 12 16, zf_inc 3 1, zf_go 16], 60),
  (60, [zf_ald 0, zf_ic 48, zf_ild 2, zf_inv h 12 10 2, zf_go 134], 70),
  (70, [zf_ild 1, zf_inst h 12 29 1, zf_if .eq 100, zf_ald 0, zf_ic 97, zf_ild 1, zf_ic 97, zf_sub, zf_inv h 12 10 2, zf_ald 0, zf_dup, zf_getI 12 16, zf_ic 1, zf_add, zf_putI 12 16, zf_go 134], 100),
  (100, [zf_ild 1, zf_ic 35, zf_ic2 .ne 126, zf_ald 0, zf_ic 35, zf_ic 0, zf_inv h 12 10 2, zf_ald 0, zf_dup, zf_getI 12 16, zf_ic 1, zf_add, zf_putI 12 16, zf_go 134], 126),
  (126, [zf_ald 0, zf_ald 0, zf_getI 12 16, zf_putI 12 17], 134),
  (134, [zf_ald 0, zf_inv h 12 11 0, zf_ret], 139)]
theorem zT12_43 (h : Nat) : zTab h 12 43 4 (zt12_43 h) := zTab.mk (ret := none) (bl := xk12_43) (by decide +kernel) (by decide +kernel) rfl rfl
def zt12_44 (h : Nat) : ZB := [(0, [zf_ald 0, zf_inv h 12 36 0, zf_ist 2, zf_ald 0, zf_ild 2, zf_ic 64, zf_ic2 .ne 16, zf_ic 2, zf_go 27], 16),
  (16, [zf_ild 2, zf_ic 39, zf_ic2 .ne 26, zf_ic 3, zf_go 27], 26),
  (26, [zf_ic 1], 27),
  (27, [zf_ild 1, zf_inv h 12 34 2, zf_ist 3, zf_ic 600, zf_ald 0, zf_getI 12 15, zf_mul, zf_ild 3, zf_add, zf_ist 4, zf_ald 0, zf_dup, zf_getI 12 16, zf_ic 1, zf_add, zf_putI 12 16, zf_ild 2, zf_inst h 12 29 1, zf_if .eq 75, zf_ald 0, zf_getR 12 8, zf_ild 4, zf_ild 2, zf_ic 97, zf_sub, zf_astI, zf_go 87], 75),
  (75, [zf_ald 0, zf_getR 12 9, zf_ild 4, zf_ald 0, zf_ic 0, zf_inv h 12 41 1, zf_astI], 87),
  (87, [zf_ild 2, zf_ic 64, zf_ic2 .ne 154, zf_ald 0, zf_ic 58, zf_inv h 12 16 1, zf_ald 0, zf_inv h 12 36 0, zf_ic 48, zf_sub, zf_ist 5, zf_ald 0, zf_getI 12 17, zf_ic (-1), zf_ic2 .ne 135, zf_ild 5, zf_if .lt 127, zf_ild 5, zf_ic 5, zf_ic2 .le 135], 127),
  (127, [zf_ald 0, zf_ald 0, zf_getI 12 16, zf_putI 12 17], 135),
  (135, [zf_ald 0, zf_dup, zf_getI 12 16, zf_ic 1, zf_add, zf_putI 12 16, zf_ald 0, zf_getR 12 8, zf_ild 4, zf_ild 5, zf_astI], 154),
  (154, [zf_ald 0, zf_ic 61, zf_inv h 12 16 1, zf_ald 0, zf_getI 12 17, zf_ic (-1), zf_ic2 .eq 169, zf_ret], 169),
  (169, [zf_ald 0, zf_getR 12 10, zf_ild 4, zf_ald 0, zf_ic 1, zf_inv h 12 41 1, zf_astI, zf_ald 0, zf_ic 59, zf_inv h 12 16 1, zf_ret], 188)]
theorem zT12_44 (h : Nat) : zTab h 12 44 6 (zt12_44 h) := zTab.mk (ret := none) (bl := xk12_44) (by decide +kernel) (by decide +kernel) rfl rfl
def zt12_45 (h : Nat) : ZB := [(0, [zf_ald 0, zf_dup, zf_getI 12 16, zf_ic 1, zf_add, zf_putI 12 16, zf_ald 0, zf_ild 1, zf_ild 2, zf_inv h 12 34 2, zf_ist 3, zf_ald 0, zf_getR 12 10, zf_ic 600, zf_ald 0, zf_getI 12 15, zf_mul, zf_ild 3, zf_add, zf_ald 0, zf_ic 1, zf_inv h 12 41 1, zf_astI, zf_ald 0, zf_ic 59, zf_inv h 12 16 1, zf_ild 3, zf_reti], 45)]
theorem zT12_45 (h : Nat) : zTab h 12 45 4 (zt12_45 h) := zTab.mk (ret := (some .int)) (bl := xk12_45) (by decide +kernel) (by decide +kernel) rfl rfl
def zt12_46 (h : Nat) : ZB := [(0, [zf_ald 0, zf_getI 12 16, zf_ist 1, zf_ald 0, zf_inv h 12 36 0, zf_ist 2, zf_ald 0, zf_getI 12 20, zf_ic 100, zf_ic2 .ne 28, zf_ald 0, zf_ald 0, zf_getI 12 16, zf_putI 12 17, zf_ret], 28),
  (28, [zf_ald 0, zf_dup, zf_getI 12 20, zf_ic 1, zf_add, zf_putI 12 20, zf_ild 2, zf_inst h 12 29 1, zf_if .ne 57, zf_ild 2, zf_ic 64, zf_ic2 .eq 57, zf_ild 2, zf_ic 39, zf_ic2 .ne 65], 57),
  (57, [zf_ald 0, zf_ild 1, zf_inv h 12 44 1, zf_go 253], 65),
  (65, [zf_ild 2, zf_inst h 12 49 1, zf_if .eq 85, zf_ald 0, zf_ild 2, zf_inst h 12 49 1, zf_ild 1, zf_inv h 12 45 2, zf_pop, zf_go 253], 85),
  (85, [zf_ild 2, zf_ic 63, zf_ic2 .ne 101, zf_ald 0, zf_ic 5, zf_ic 1, zf_ild 1, zf_inv h 12 40 3, zf_go 253], 101),
  (101, [zf_ild 2, zf_ic 42, zf_ic2 .ne 118, zf_ald 0, zf_ic 6, zf_ic 3, zf_ild 1, zf_inv h 12 40 3, zf_go 253], 118),
  (118, [zf_ild 2, zf_ic 91, zf_ic2 .ne 143, zf_ald 0, zf_ic 7, zf_ild 1, zf_inv h 12 34 2, zf_ist 3, zf_ald 0, zf_ic 4, zf_ic 91, zf_ild 3, zf_inv h 12 33 3, zf_go 253], 143),
  (143, [zf_ild 2, zf_ic 126, zf_ic2 .ne 178, zf_ald 0, zf_ic 9, zf_ild 1, zf_inv h 12 34 2, zf_ist 3, zf_ald 0, zf_dup, zf_getI 12 16, zf_ic 1, zf_add, zf_putI 12 16, zf_ald 0, zf_ic 5, zf_ic 123, zf_ild 3, zf_inv h 12 33 3, zf_go 253], 178),
  (178, [zf_ild 2, zf_ic 58, zf_ic2 .ne 192, zf_ald 0, zf_ild 1, zf_inv h 12 42 1, zf_go 253], 192),
  (192, [zf_ild 2, zf_inst h 12 26 1, zf_if .eq 245, zf_ald 0, zf_ic 18, zf_ild 1, zf_inv h 12 34 2, zf_ist 3, zf_ald 0, zf_getR 12 8, zf_ic 600, zf_ald 0, zf_getI 12 15, zf_mul, zf_ild 3, zf_add, zf_ild 2, zf_ic 65, zf_sub, zf_astI, zf_ald 0, zf_dup, zf_getI 12 16, zf_ic 1, zf_add, zf_putI 12 16, zf_ald 0, zf_ic 59, zf_inv h 12 16 1, zf_go 253], 245),
  (245, [zf_ald 0, zf_ald 0, zf_getI 12 16, zf_putI 12 17], 253),
  (253, [zf_ret], 254)]
theorem zT12_46 (h : Nat) : zTab h 12 46 4 (zt12_46 h) := zTab.mk (ret := none) (bl := xk12_46) (by decide +kernel) (by decide +kernel) rfl rfl
def zt12_47 (h : Nat) : ZB := [(0, [zf_ild 0, zf_lk 92 [(37, 68), (42, 60), (43, 72), (45, 76), (47, 64), (60, 80)]], 60),
  (60, [zf_lld 1, zf_lld 3, zf_lmul, zf_retl], 64),
  (64, [zf_lld 1, zf_lld 3, zf_ldiv, zf_retl], 68),
  (68, [zf_lld 1, zf_lld 3, zf_lrem, zf_retl], 72),
  (72, [zf_lld 1, zf_lld 3, zf_ladd, zf_retl], 76),
  (76, [zf_lld 1, zf_lld 3, zf_lsub, zf_retl], 80),
  (80, [zf_lld 1, zf_lld 3, zf_lcmp, zf_if .ge 90, zf_lc 1, zf_go 91], 90),
  (90, [zf_lc 0], 91),
  (91, [zf_retl], 92),
  (92, [zf_lld 1, zf_lld 3, zf_lcmp, zf_if .ne 102, zf_lc 1, zf_go 103], 102),
  (102, [zf_lc 0], 103),
  (103, [zf_retl], 104)]
theorem zT12_47 (h : Nat) : zTab h 12 47 5 (zt12_47 h) := zTab.mk (ret := (some .long)) (bl := xk12_47) (by decide +kernel) (by decide +kernel) rfl rfl
def zt12_48 (h : Nat) : ZB := [(0, [zf_ald 0, zf_lld 1, zf_lc 1, zf_lcmp, zf_if .lt 19, zf_lld 1, zf_lc 300, zf_lcmp, zf_if .gt 19, zf_ic 0, zf_go 20], 19),
  (19, [zf_ic 1], 20),
  (20, [zf_putI 12 0, zf_ald 0, zf_getI 12 0, zf_if .eq 32, zf_ic 0, zf_reti], 32),
  (32, [zf_ald 0, zf_inv h 12 18 0, zf_ald 0, zf_lld 1, zf_putL 12 34, zf_ald 0, zf_ic 0, zf_putZ 12 49, zf_ald 0, zf_ic 0, zf_putI 12 50, zf_ald 0, zf_ic 0, zf_putI 12 52, zf_ald 0, zf_ic 0, zf_putI 12 53, zf_ald 0, zf_ic 0, zf_putI 12 55], 66),
  (66, [zf_ald 0, zf_getI 12 49, zf_if .ne 80, zf_ald 0, zf_inv h 12 55 0, zf_go 66], 80),
  (80, [zf_ald 0, zf_getI 12 50, zf_reti], 85)]
theorem zT12_48 (h : Nat) : zTab h 12 48 3 (zt12_48 h) := zTab.mk (ret := (some .int)) (bl := xk12_48) (by decide +kernel) (by decide +kernel) rfl rfl
def zt12_49 (h : Nat) : ZB := [(0, [zf_ild 0, zf_lk 77 [(33, 60), (38, 68), (43, 65), (60, 74), (94, 62), (124, 71)]], 60),
  (60, [zf_ic 4, zf_reti], 62),
  (62, [zf_ic 12, zf_reti], 65),
  (65, [zf_ic 13, zf_reti], 68),
  (68, [zf_ic 14, zf_reti], 71),
  (71, [zf_ic 15, zf_reti], 74),
  (74, [zf_ic 16, zf_reti], 77),
  (77, [zf_ic 0, zf_reti], 79)]
theorem zT12_49 (h : Nat) : zTab h 12 49 1 (zt12_49 h) := zTab.mk (ret := (some .int)) (bl := xk12_49) (by decide +kernel) (by decide +kernel) rfl rfl
def zt12_50 (h : Nat) : ZB := [(0, [zf_ald 0, zf_getL 12 35, zf_ald 0, zf_getL 12 34, zf_lcmp, zf_if .ne 24, zf_ald 0, zf_ic 2, zf_putI 12 50, zf_ald 0, zf_ic 1, zf_putZ 12 49, zf_ic 0, zf_retz], 24),
  (24, [zf_ald 0, zf_dup, zf_getL 12 35, zf_lc 1, zf_ladd, zf_putL 12 35, zf_ald 0, zf_ild 1, zf_putI 12 51, zf_ic 1, zf_retz], 41)]
theorem zT12_50 (h : Nat) : zTab h 12 50 2 (zt12_50 h) := zTab.mk (ret := (some .boolean)) (bl := xk12_50) (by decide +kernel) (by decide +kernel) rfl rfl
def zt12_51 (h : Nat) : ZB := [(0, [zf_ild 1, zf_ic 1, zf_ic2 .ne 50, zf_ald 0, zf_ald 0, zf_getR 12 10, zf_ild 2, zf_aldI 100, zf_inv h 12 4 1, zf_if .eq 36, zf_ald 0, zf_getR 12 33, zf_ald 0, zf_getR 12 8, zf_ild 2, zf_aldI 100, zf_ald 0, zf_getL 12 65, zf_astL, zf_go 49], 36),
  (36, [zf_ald 0, zf_ald 0, zf_getI 12 66, zf_ald 0, zf_getI 12 51, zf_ic 0, zf_inv h 12 38 3], 49),
  (49, [zf_ret], 50),
  (50, [zf_ald 0, zf_ald 0, zf_getR 12 9, zf_ild 2, zf_aldI 100, zf_inv h 12 4 1, zf_ist 3, zf_ald 0, zf_getL 12 65, zf_lst 4, zf_ild 1, zf_ic 2, zf_ic2 .ne 81, zf_ald 0, zf_lld 4, zf_inv h 12 28 1, zf_go 104], 81),
  (81, [zf_lld 4, zf_lc 0, zf_lcmp, zf_if .lt 103, zf_lld 4, zf_ald 0, zf_getI 12 30, zf_i2l, zf_lcmp, zf_if .ge 103, zf_ic 1, zf_go 104], 103),
  (103, [zf_ic 0], 104),
  (104, [zf_ist 6, zf_ild 3, zf_if .ne 126, zf_ald 0, zf_ald 0, zf_getI 12 66, zf_ald 0, zf_getI 12 51, zf_ic 0, zf_inv h 12 38 3, zf_go 215], 126),
  (126, [zf_ild 6, zf_if .ne 144, zf_ald 0, zf_ic 2, zf_ald 0, zf_getI 12 51, zf_ic 0, zf_inv h 12 38 3, zf_go 215], 144),
  (144, [zf_ald 0, zf_ald 0, zf_getR 12 10, zf_ild 2, zf_aldI 100, zf_inv h 12 4 1, zf_if .ne 173, zf_ald 0, zf_ald 0, zf_getI 12 66, zf_ald 0, zf_getI 12 51, zf_ic 0, zf_inv h 12 38 3, zf_go 215], 173),
  (173, [zf_ild 1, zf_ic 2, zf_ic2 .ne 203, zf_ald 0, zf_getR 12 29, zf_ic 6, zf_lld 4, zf_l2i, zf_mul, zf_ald 0, zf_getR 12 8, zf_ild 2, zf_aldI 100, zf_add, zf_ald 0, zf_getL 12 65, zf_astL, zf_go 215], 203),
  (203, [zf_ald 0, zf_getR 12 31, zf_lld 4, zf_l2i, zf_ald 0, zf_getL 12 65, zf_astL], 215),
  (215, [zf_ret], 216)]
theorem zT12_51 (h : Nat) : zTab h 12 51 7 (zt12_51 h) := zTab.mk (ret := none) (bl := xk12_51) (by decide +kernel) (by decide +kernel) rfl rfl
def zt12_52 (h : Nat) : ZB := [(0, [zf_ild 0, zf_ic 42, zf_ic2 .eq 18, zf_ild 0, zf_ic 47, zf_ic2 .eq 18, zf_ild 0, zf_ic 37, zf_ic2 .ne 20], 18),
  (18, [zf_ic 3, zf_reti], 20),
  (20, [zf_ild 0, zf_ic 43, zf_ic2 .eq 32, zf_ild 0, zf_ic 45, zf_ic2 .ne 34], 32),
  (32, [zf_ic 2, zf_reti], 34),
  (34, [zf_ild 0, zf_ic 60, zf_ic2 .eq 46, zf_ild 0, zf_ic 61, zf_ic2 .ne 50], 46),
  (46, [zf_ic 1, zf_go 51], 50),
  (50, [zf_ic 0], 51),
  (51, [zf_reti], 52)]
theorem zT12_52 (h : Nat) : zTab h 12 52 1 (zt12_52 h) := zTab.mk (ret := (some .int)) (bl := xk12_52) (by decide +kernel) (by decide +kernel) rfl rfl
def zt12_53 (h : Nat) : ZB := [(0, [zf_ald 0, zf_getI 12 0, zf_reti], 5)]
theorem zT12_53 (h : Nat) : zTab h 12 53 1 (zt12_53 h) := zTab.mk (ret := (some .int)) (bl := xk12_53) (by decide +kernel) (by decide +kernel) rfl rfl
def zt12_54 (h : Nat) : ZB := [(0, [zf_ald 0, zf_ic 0, zf_putI 12 0, zf_ild 1, zf_ic 10, zf_ic2 .eq 23, zf_ild 1, zf_ic 32, zf_ic2 .lt 33, zf_ild 1, zf_ic 126, zf_ic2 .gt 33], 23),
  (23, [zf_ald 0, zf_getI 12 1, zf_ic 400, zf_ic2 .ne 35], 33),
  (33, [zf_ic 0, zf_retz], 35),
  (35, [zf_ald 0, zf_getR 12 2, zf_ald 0, zf_getI 12 1, zf_ild 1, zf_astI, zf_ald 0, zf_dup, zf_getI 12 1, zf_ic 1, zf_add, zf_putI 12 1, zf_ic 1, zf_retz], 57)]
theorem zT12_54 (h : Nat) : zTab h 12 54 2 (zt12_54 h) := zTab.mk (ret := (some .boolean)) (bl := xk12_54) (by decide +kernel) (by decide +kernel) rfl rfl
def zt12_55 (h : Nat) : ZB := [(0, [zf_ic 600, zf_ald 0, zf_getI 12 3, zf_mul, zf_ald 0, zf_getI 12 52, zf_add, zf_ist 1, zf_ald 0, zf_getR 12 6, zf_ild 1, zf_aldI 100, zf_ist 2, zf_ald 0, zf_dup, zf_getI 12 52, zf_ic 1, zf_add, zf_putI 12 52, zf_ild 2, zf_sw 168 8 20 [141, 168, 152, 163, 168, 168, 168, 168, 168, 106, 168, 117, 100]], 100),
  (100, [zf_ald 0, zf_ic 1, zf_putZ 12 49, zf_ret], 106),
  (106, [zf_ald 0, zf_ald 0, zf_getR 12 11, zf_ild 1, zf_aldI 100, zf_putI 12 52, zf_ret], 117),
  (117, [zf_ald 0, zf_dup, zf_getI 12 53, zf_ic 1, zf_sub, zf_putI 12 53, zf_ald 0, zf_ald 0, zf_getR 12 54, zf_ald 0, zf_getI 12 53, zf_aldI 100, zf_putI 12 52, zf_ret], 141),
  (141, [zf_ald 0, zf_ald 0, zf_getR 12 7, zf_ild 1, zf_aldI 100, zf_inv h 12 14 1, zf_ret], 152),
  (152, [zf_ald 0, zf_ald 0, zf_getR 12 7, zf_ild 1, zf_aldI 100, zf_inv h 12 6 1, zf_ret], 163),
  (163, [zf_ald 0, zf_inv h 12 9 0, zf_ret], 168),
  (168, [zf_ald 0, zf_ald 0, zf_getR 12 7, zf_ild 1, zf_aldI 100, zf_inv h 12 50 1, zf_if .ne 182, zf_ret], 182),
  (182, [zf_ild 2, zf_sw 320 1 18 [268, 268, 268, 320, 320, 320, 275, 320, 296, 320, 320, 320, 320, 320, 320, 320, 320, 309]], 268),
  (268, [zf_ald 0, zf_ild 2, zf_ild 1, zf_inv h 12 51 2, zf_ret], 275),
  (275, [zf_ald 0, zf_ic 7, zf_ald 0, zf_getI 12 45, zf_inv h 12 19 2, zf_ald 0, zf_dup, zf_getI 12 45, zf_ic 1, zf_add, zf_putI 12 45, zf_ret], 296),
  (296, [zf_ald 0, zf_ic 9, zf_ald 0, zf_getR 12 11, zf_ild 1, zf_aldI 100, zf_inv h 12 19 2, zf_ret], 309),
  (309, [zf_ald 0, zf_ald 0, zf_getR 12 8, zf_ild 1, zf_aldI 100, zf_inv h 12 7 1, zf_ret], 320),
  (320, [zf_ald 0, zf_ild 2, zf_ild 1, zf_inv h 12 0 2, zf_ret], 327)]
theorem zT12_55 (h : Nat) : zTab h 12 55 3 (zt12_55 h) := zTab.mk (ret := none) (bl := xk12_55) (by decide +kernel) (by decide +kernel) rfl rfl
