/-! TABLES of what methods of class 19 ask -/
def zt19_0 (h : Nat) : ZB := [(0, [zf_ald 0, zf_ald 0, zf_ild 1, zf_inv h 19 18 1, zf_if .ne 13, zf_ic 1, zf_go 37], 13),
  (13, [zf_ild 2, zf_if .lt 36, zf_ild 2, zf_ic 16, zf_ic2 .ge 36, zf_ild 3, zf_if .lt 36, zf_ild 3, zf_ic 4, zf_ic2 .ge 36, zf_ic 0, zf_go 37], 36),
  (36, [zf_ic 2], 37),
  (37, [zf_putI 19 0, zf_ald 0, zf_getI 19 0, zf_if .eq 49, zf_ic 0, zf_reti], 49),
  (49, [zf_ald 0, zf_getR 19 19, zf_ic 16, zf_ild 1, zf_mul, zf_ild 2, zf_add, zf_ic 1, zf_ild 3, zf_add, zf_astI, zf_ald 0, zf_ild 1, zf_ic 0, zf_ild 2, zf_ild 3, zf_inv h 19 22 4, zf_ald 0, zf_ild 1, zf_inv h 19 15 1, zf_if .eq 83, zf_ic 1, zf_go 84], 83),
  (83, [zf_ic 0], 84),
  (84, [zf_reti], 85)]
theorem zT19_0 (h : Nat) : zTab h 19 0 4 (zt19_0 h) := zTab.mk (ret := (some .int)) (bl := xk19_0) (by decide +kernel) (by decide +kernel) rfl rfl
def zt19_1 (h : Nat) : ZB := [(0, [zf_ald 0, zf_ild 1, zf_putI 19 29, zf_ald 0, zf_ic 0, zf_putI 19 30, zf_ald 0, zf_ic (-1), zf_putI 19 31, zf_ret], 16)]
theorem zT19_1 (h : Nat) : zTab h 19 1 2 (zt19_1 h) := zTab.mk (ret := none) (bl := xk19_1) (by decide +kernel) (by decide +kernel) rfl rfl
def zt19_2 (h : Nat) : ZB := [(0, [zf_ic 0, zf_ist 2], 2),
  (2, [zf_ild 2, zf_ic 16, zf_ic2 .ge 68, zf_ild 1, zf_ic 4, zf_ild 2, zf_mul, zf_add, zf_ist 3, zf_ald 0, zf_getR 19 4, zf_ild 2, zf_ald 0, zf_getR 19 3, zf_ild 3, zf_aldI 100, zf_ic 24, zf_bit zshl, zf_ald 0, zf_getR 19 3, zf_ild 3, zf_ic 1, zf_add, zf_aldI 100, zf_ic 16, zf_bit zshl, zf_bit zor, zf_ald 0, zf_getR 19 3, zf_ild 3, zf_ic 2, zf_add, zf_aldI 100, zf_ic 8, zf_bit zshl, zf_bit zor, zf_ald 0, zf_getR 19 3, zf_ild 3, zf_ic 3, zf_add, zf_aldI 100, zf_bit zor, zf_astI, zf_inc 2 1, zf_go 2], 68),
  (68, [zf_ic 16, zf_ist 2], 71),
  (71, [zf_ild 2, zf_ic 64, zf_ic2 .ge 176, zf_ald 0, zf_getR 19 4, zf_ild 2, zf_ic 15, zf_sub, zf_aldI 100, zf_ist 3, zf_ald 0, zf_getR 19 4, zf_ild 2, zf_ic 2, zf_sub, zf_aldI 100, zf_ist 4, zf_ild 3, zf_ic 7, zf_inst h 19 34 2, zf_ild 3, zf_ic 18, zf_inst h 19 34 2, zf_bit zxor, zf_ild 3, zf_ic 3, zf_bit zushr, zf_bit zxor, zf_ist 5, zf_ild 4, zf_ic 17, zf_inst h 19 34 2, zf_ild 4, zf_ic 19, zf_inst h 19 34 2, zf_bit zxor, zf_ild 4, zf_ic 10, zf_bit zushr, zf_bit zxor, zf_ist 6, zf_ald 0, zf_getR 19 4, zf_ild 2, zf_ald 0, zf_getR 19 4, zf_ild 2, zf_ic 16, zf_sub, zf_aldI 100, zf_ild 5, zf_add, zf_ald 0, zf_getR 19 4, zf_ild 2, zf_ic 7, zf_sub, zf_aldI 100, zf_add, zf_ild 6, zf_add, zf_astI, zf_inc 2 1, zf_go 71], 176),
  (176, [zf_ic 0, zf_ist 2], 178),
  (178, [zf_ild 2, zf_ic 8, zf_ic2 .ge 202, zf_ald 0, zf_getR 19 6, zf_ild 2, zf_ald 0, zf_getR 19 5, zf_ild 2, zf_aldI 100, zf_astI, zf_inc 2 1, zf_go 178], 202),
  (202, [zf_ic 0, zf_ist 2], 204),
  (204, [zf_ild 2, zf_ic 64, zf_ic2 .ge 419, zf_ald 0, zf_getR 19 6, zf_ic 4, zf_aldI 100, zf_ist 3, zf_ald 0, zf_getR 19 6, zf_ic 0, zf_aldI 100, zf_ist 4, zf_ild 3, zf_ic 6, zf_inst h 19 34 2, zf_ild 3, zf_ic 11, zf_inst h 19 34 2, zf_bit zxor, zf_ild 3, zf_ic 25, zf_inst h 19 34 2, zf_bit zxor, zf_ist 5, zf_ild 3, zf_ald 0, zf_getR 19 6, zf_ic 5, zf_aldI 100, zf_bit zand, zf_ild 3, zf_ic (-1), zf_bit zxor, zf_ald 0, zf_getR 19 6, zf_ic 6, zf_aldI 100, zf_bit zand, zf_bit zxor, zf_ist 6, zf_ald 0, zf_getR 19 6, zf_ic 7, zf_aldI 100, zf_ild 5, zf_add, zf_ild 6, zf_add, zf_ald 0, zf_getR 19 1, zf_ild 2, zf_aldI 100, zf_add, zf_ald 0, zf_getR 19 4, zf_ild 2, zf_aldI 100, zf_add, zf_ist 7, zf_ild 4, zf_ic 2, zf_inst h 19 34 2, zf_ild 4, zf_ic 13, zf_inst h 19 34 2, zf_bit zxor, zf_ild 4, zf_ic 22, zf_inst h 19 34 2, zf_bit zxor, zf_ist 8, zf_ild 4, zf_ald 0, zf_getR 19 6, zf_ic 1, zf_aldI 100, zf_bit zand, zf_ild 4, zf_ald 0, zf_getR 19 6, zf_ic 2, zf_aldI 100, zf_bit zand, zf_bit zxor, zf_ald 0, zf_getR 19 6, zf_ic 1, zf_aldI 100, zf_ald 0, zf_getR 19 6, zf_ic 2, zf_aldI 100, zf_bit zand, zf_bit zxor, zf_ist 9, zf_ic 7, zf_ist 10], 361),
  (361, [zf_ild 10, zf_if .le 388, zf_ald 0, zf_getR 19 6, zf_ild 10, zf_ald 0, zf_getR 19 6, zf_ild 10, zf_ic 1, zf_sub, zf_aldI 100, zf_astI, zf_inc 10 (-1), zf_go 361], 388),
  (388, [zf_ald 0, zf_getR 19 6, zf_ic 4, zf_dup2, zf_aldI 100, zf_ild 7, zf_add, zf_astI, zf_ald 0, zf_getR 19 6, zf_ic 0, zf_ild 7, zf_ild 8, zf_add, zf_ild 9, zf_add, zf_astI, zf_inc 2 1, zf_go 204], 419),
  (419, [zf_ic 0, zf_ist 2], 421),
  (421, [zf_ild 2, zf_ic 8, zf_ic2 .ge 448, zf_ald 0, zf_getR 19 5, zf_ild 2, zf_dup2, zf_aldI 100, zf_ald 0, zf_getR 19 6, zf_ild 2, zf_aldI 100, zf_add, zf_astI, zf_inc 2 1, zf_go 421], 448),
  (448, [zf_ret], 449)]
theorem zT19_2 (h : Nat) : zTab h 19 2 11 (zt19_2 h) := zTab.mk (ret := none) (bl := xk19_2) (by decide +kernel) (by decide +kernel) rfl rfl
def zt19_3 (h : Nat) : ZB := [(0, [zf_ald 0, zf_ild 1, zf_if .lt 16, zf_ild 1, zf_ald 0, zf_getR 19 9, zf_ic 10, zf_aldI 100, zf_ic2 .lt 20], 16),
  (16, [zf_ic 1, zf_go 32], 20),
  (20, [zf_ild 2, zf_inst h 19 16 1, zf_if .eq 31, zf_ic 0, zf_go 32], 31),
  (31, [zf_ic 2], 32),
  (32, [zf_putI 19 0, zf_ic 80, zf_ild 1, zf_add, zf_ist 3, zf_ald 0, zf_getI 19 0, zf_if .ne 58, zf_ald 0, zf_getR 19 11, zf_ild 3, zf_aldI 100, zf_ic 64, zf_ic2 .ne 60], 58),
  (58, [zf_ic 0, zf_retz], 60),
  (60, [zf_ald 0, zf_getR 19 12, zf_ic 64, zf_ild 3, zf_mul, zf_ald 0, zf_getR 19 11, zf_ild 3, zf_aldI 100, zf_add, zf_ild 2, zf_astI, zf_ald 0, zf_getR 19 11, zf_ild 3, zf_dup2, zf_aldI 100, zf_ic 1, zf_add, zf_astI, zf_ic 1, zf_retz], 89)]
theorem zT19_3 (h : Nat) : zTab h 19 3 4 (zt19_3 h) := zTab.mk (ret := (some .boolean)) (bl := xk19_3) (by decide +kernel) (by decide +kernel) rfl rfl
def zt19_4 (h : Nat) : ZB := [(0, [zf_ald 0, zf_ic 0, zf_putI 19 0, zf_ild 1, zf_inst h 19 16 1, zf_if .eq 22, zf_ald 0, zf_getI 19 17, zf_ic 300, zf_ic2 .ne 24], 22),
  (22, [zf_ic 0, zf_retz], 24),
  (24, [zf_ald 0, zf_getR 19 18, zf_ald 0, zf_getI 19 17, zf_ild 1, zf_astI, zf_ald 0, zf_dup, zf_getI 19 17, zf_ic 1, zf_add, zf_putI 19 17, zf_ic 1, zf_retz], 46)]
theorem zT19_4 (h : Nat) : zTab h 19 4 2 (zt19_4 h) := zTab.mk (ret := (some .boolean)) (bl := xk19_4) (by decide +kernel) (by decide +kernel) rfl rfl
def zt19_5 (h : Nat) : ZB := [(0, [zf_ald 0, zf_ic 0, zf_putI 19 0, zf_ald 0, zf_inv h 19 13 0, zf_if .eq 16, zf_ic 1, zf_go 17], 16),
  (16, [zf_ic 0], 17),
  (17, [zf_reti], 18)]
theorem zT19_5 (h : Nat) : zTab h 19 5 1 (zt19_5 h) := zTab.mk (ret := (some .int)) (bl := xk19_5) (by decide +kernel) (by decide +kernel) rfl rfl
def zt19_6 (h : Nat) : ZB := [(0, [zf_ald 0, zf_ic 0, zf_putI 19 0, zf_ald 0, zf_ic 0, zf_putI 19 17, zf_ret], 11)]
theorem zT19_6 (h : Nat) : zTab h 19 6 1 (zt19_6 h) := zTab.mk (ret := none) (bl := xk19_6) (by decide +kernel) (by decide +kernel) rfl rfl
def zt19_7 (h : Nat) : ZB := [(0, [zf_ald 0, zf_ic 0, zf_putI 19 0, zf_ald 0, zf_getI 19 8, zf_ic 10, zf_ic2 .ne 16, zf_ic (-1), zf_reti], 16),
  (16, [zf_ald 0, zf_getI 19 8, zf_ist 1, zf_ic (-1), zf_ist 2, zf_ic 0, zf_ist 3], 25),
  (25, [zf_ild 3, zf_ald 0, zf_getR 19 9, zf_ic 10, zf_aldI 100, zf_ic2 .ge 174, zf_ic 80, zf_ald 0, zf_ild 2, zf_inv h 19 21 1, zf_add, zf_ist 4, zf_ic 8, zf_ild 1, zf_mul, zf_ild 3, zf_add, zf_ist 5, zf_ald 0, zf_getR 19 10, zf_ild 4, zf_aldI 100, zf_ist 2, zf_ald 0, zf_getR 19 10, zf_ild 5, zf_ild 2, zf_astI, zf_ald 0, zf_getR 19 11, zf_ild 5, zf_ald 0, zf_getR 19 11, zf_ild 4, zf_aldI 100, zf_astI, zf_ic 0, zf_ist 6], 87),
  (87, [zf_ild 6, zf_ic 64, zf_ic2 .ge 126, zf_ald 0, zf_getR 19 12, zf_ic 64, zf_ild 5, zf_mul, zf_ild 6, zf_add, zf_ald 0, zf_getR 19 12, zf_ic 64, zf_ild 4, zf_mul, zf_ild 6, zf_add, zf_aldI 100, zf_astI, zf_inc 6 1, zf_go 87], 126),
  (126, [zf_ald 0, zf_ild 5, zf_inv h 19 9 1, zf_ic 0, zf_ist 6], 135),
  (135, [zf_ild 6, zf_ic 32, zf_ic2 .ge 168, zf_ald 0, zf_getR 19 13, zf_ic 32, zf_ild 5, zf_mul, zf_ild 6, zf_add, zf_ald 0, zf_getR 19 7, zf_ild 6, zf_aldI 100, zf_astI, zf_inc 6 1, zf_go 135], 168),
  (168, [zf_inc 3 1, zf_go 25], 174),
  (174, [zf_ald 0, zf_getR 19 9, zf_ild 1, zf_ald 0, zf_getR 19 9, zf_ic 10, zf_aldI 100, zf_astI, zf_ald 0, zf_getR 19 9, zf_ic 10, zf_ic 0, zf_astI, zf_ald 0, zf_dup, zf_getI 19 8, zf_ic 1, zf_add, zf_putI 19 8, zf_ald 0, zf_ild 1, zf_inv h 19 19 1], 210),
  (210, [zf_ald 0, zf_getI 19 15, zf_ic 1, zf_ic2 .le 225, zf_ald 0, zf_inv h 19 12 0, zf_go 210], 225),
  (225, [zf_ald 0, zf_getI 19 15, zf_if .ne 236, zf_ald 0, zf_inv h 19 8 0], 236),
  (236, [zf_ic 0, zf_ist 3], 238),
  (238, [zf_ild 3, zf_ic 32, zf_ic2 .ge 283, zf_ald 0, zf_getR 19 14, zf_ic 32, zf_ild 1, zf_mul, zf_ild 3, zf_add, zf_ald 0, zf_getI 19 15, zf_if .ne 270, zf_ald 0, zf_getR 19 7, zf_ild 3, zf_aldI 100, zf_go 276], 270),
  (270, [zf_ald 0, zf_getR 19 16, zf_ild 3, zf_aldI 100], 276),
  (276, [zf_astI, zf_inc 3 1, zf_go 238], 283),
  (283, [zf_ild 1, zf_reti], 285)]
theorem zT19_7 (h : Nat) : zTab h 19 7 7 (zt19_7 h) := zTab.mk (ret := (some .int)) (bl := xk19_7) (by decide +kernel) (by decide +kernel) rfl rfl
def zt19_8 (h : Nat) : ZB := [(0, [zf_ald 0, zf_getI 19 2, zf_ist 1, zf_ald 0, zf_ic 128, zf_inv h 19 25 1], 12),
  (12, [zf_ald 0, zf_getI 19 2, zf_ic 64, zf_rem, zf_ic 56, zf_ic2 .eq 32, zf_ald 0, zf_ic 0, zf_inv h 19 25 1, zf_go 12], 32),
  (32, [zf_ic 0, zf_ist 2], 34),
  (34, [zf_ild 2, zf_ic 4, zf_ic2 .ge 50, zf_ald 0, zf_ic 0, zf_inv h 19 25 1, zf_inc 2 1, zf_go 34], 50),
  (50, [zf_ic 24, zf_ist 2], 53),
  (53, [zf_ild 2, zf_if .lt 77, zf_ald 0, zf_ic 8, zf_ild 1, zf_mul, zf_ild 2, zf_bit zshr, zf_ic 255, zf_bit zand, zf_inv h 19 25 1, zf_inc 2 (-8), zf_go 53], 77),
  (77, [zf_ald 0, zf_getR 19 5, zf_ic 0, zf_ic 1779033703, zf_astI, zf_ald 0, zf_getR 19 5, zf_ic 1, zf_ic (-1150833019), zf_astI, zf_ald 0, zf_getR 19 5, zf_ic 2, zf_ic 1013904242, zf_astI, zf_ald 0, zf_getR 19 5, zf_ic 3, zf_ic (-1521486534), zf_astI, zf_ald 0, zf_getR 19 5, zf_ic 4, zf_ic 1359893119, zf_astI, zf_ald 0, zf_getR 19 5, zf_ic 5, zf_ic (-1694144372), zf_astI, zf_ald 0, zf_getR 19 5, zf_ic 6, zf_ic 528734635, zf_astI, zf_ald 0, zf_getR 19 5, zf_ic 7, zf_ic 1541459225, zf_astI, zf_ic 0, zf_ist 2], 145),
  (145, [zf_ild 2, zf_ald 0, zf_getI 19 2, zf_ic2 .ge 164, zf_ald 0, zf_ild 2, zf_inv h 19 2 1, zf_inc 2 64, zf_go 145], 164),
  (164, [zf_ic 0, zf_ist 2], 166),
  (166, [zf_ild 2, zf_ic 32, zf_ic2 .ge 206, zf_ald 0, zf_getR 19 7, zf_ild 2, zf_ald 0, zf_getR 19 5, zf_ild 2, zf_ic 4, zf_div, zf_aldI 100, zf_ic 24, zf_ic 8, zf_ild 2, zf_ic 4, zf_rem, zf_mul, zf_sub, zf_bit zshr, zf_ic 255, zf_bit zand, zf_astI, zf_inc 2 1, zf_go 166], 206),
  (206, [zf_ald 0, zf_ic 0, zf_putI 19 2, zf_ret], 212)]
theorem zT19_8 (h : Nat) : zTab h 19 8 3 (zt19_8 h) := zTab.mk (ret := none) (bl := xk19_8) (by decide +kernel) (by decide +kernel) rfl rfl
def zt19_9 (h : Nat) : ZB := [(0, [zf_ald 0, zf_ic 0, zf_inv h 19 25 1, zf_ald 0, zf_ald 0, zf_getR 19 10, zf_ild 1, zf_aldI 100, zf_ic 8, zf_bit zshr, zf_inv h 19 25 1, zf_ald 0, zf_ald 0, zf_getR 19 10, zf_ild 1, zf_aldI 100, zf_ic 255, zf_bit zand, zf_inv h 19 25 1, zf_ic 0, zf_ist 2], 34),
  (34, [zf_ild 2, zf_ald 0, zf_getR 19 11, zf_ild 1, zf_aldI 100, zf_ic2 .ge 65, zf_ald 0, zf_ald 0, zf_getR 19 12, zf_ic 64, zf_ild 1, zf_mul, zf_ild 2, zf_add, zf_aldI 100, zf_inv h 19 25 1, zf_inc 2 1, zf_go 34], 65),
  (65, [zf_ald 0, zf_inv h 19 8 0, zf_ret], 70)]
theorem zT19_9 (h : Nat) : zTab h 19 9 3 (zt19_9 h) := zTab.mk (ret := none) (bl := xk19_9) (by decide +kernel) (by decide +kernel) rfl rfl
def zt19_10 (h : Nat) : ZB := [(0, [zf_ald 0, zf_ild 1, zf_if .lt 15, zf_ild 1, zf_ic 65536, zf_ic2 .ge 15, zf_ic 0, zf_go 16], 15),
  (15, [zf_ic 1], 16),
  (16, [zf_putI 19 0, zf_ald 0, zf_getI 19 0, zf_if .eq 28, zf_ic 0, zf_reti], 28),
  (28, [zf_ald 0, zf_getR 19 9, zf_ic 10, zf_aldI 100, zf_ic 8, zf_ic2 .eq 51, zf_ald 0, zf_ic 10, zf_ild 1, zf_inv h 19 11 2, zf_ic (-1), zf_ic2 .eq 53], 51),
  (51, [zf_ic (-1), zf_reti], 53),
  (53, [zf_ald 0, zf_getR 19 10, zf_ic 80, zf_ald 0, zf_getR 19 9, zf_ic 10, zf_aldI 100, zf_add, zf_ild 1, zf_astI, zf_ald 0, zf_getR 19 11, zf_ic 80, zf_ald 0, zf_getR 19 9, zf_ic 10, zf_aldI 100, zf_add, zf_ic 0, zf_astI, zf_ald 0, zf_getR 19 9, zf_ic 10, zf_dup2, zf_aldI 100, zf_ic 1, zf_add, zf_astI, zf_ald 0, zf_getR 19 9, zf_ic 10, zf_aldI 100, zf_ic 1, zf_sub, zf_reti], 106)]
theorem zT19_10 (h : Nat) : zTab h 19 10 2 (zt19_10 h) := zTab.mk (ret := (some .int)) (bl := xk19_10) (by decide +kernel) (by decide +kernel) rfl rfl
def zt19_11 (h : Nat) : ZB := [(0, [zf_ic 0, zf_ist 3], 2),
  (2, [zf_ild 3, zf_ald 0, zf_getR 19 9, zf_ild 1, zf_aldI 100, zf_ic2 .ge 35, zf_ald 0, zf_getR 19 10, zf_ic 8, zf_ild 1, zf_mul, zf_ild 3, zf_add, zf_aldI 100, zf_ild 2, zf_ic2 .ne 29, zf_ild 3, zf_reti], 29),
  (29, [zf_inc 3 1, zf_go 2], 35),
  (35, [zf_ic (-1), zf_reti], 37)]
theorem zT19_11 (h : Nat) : zTab h 19 11 4 (zt19_11 h) := zTab.mk (ret := (some .int)) (bl := xk19_11) (by decide +kernel) (by decide +kernel) rfl rfl
def zt19_12 (h : Nat) : ZB := [(0, [zf_ic 0, zf_ist 1], 2),
  (2, [zf_ild 1, zf_ald 0, zf_getI 19 15, zf_ic2 .ge 132, zf_ild 1, zf_ic 1, zf_add, zf_ald 0, zf_getI 19 15, zf_ic2 .ne 59, zf_ic 0, zf_ist 2], 22),
  (22, [zf_ild 2, zf_ic 32, zf_ic2 .ge 56, zf_ald 0, zf_getR 19 16, zf_ic 16, zf_ild 1, zf_mul, zf_ild 2, zf_add, zf_ald 0, zf_getR 19 16, zf_ic 32, zf_ild 1, zf_mul, zf_ild 2, zf_add, zf_aldI 100, zf_astI, zf_inc 2 1, zf_go 22], 56),
  (56, [zf_go 126], 59),
  (59, [zf_ald 0, zf_ic 1, zf_inv h 19 25 1, zf_ald 0, zf_ald 0, zf_getR 19 16, zf_ic 32, zf_ild 1, zf_mul, zf_inv h 19 26 2, zf_ald 0, zf_ald 0, zf_getR 19 16, zf_ic 32, zf_ild 1, zf_mul, zf_ic 32, zf_add, zf_inv h 19 26 2, zf_ald 0, zf_inv h 19 8 0, zf_ic 0, zf_ist 2], 97),
  (97, [zf_ild 2, zf_ic 32, zf_ic2 .ge 126, zf_ald 0, zf_getR 19 16, zf_ic 16, zf_ild 1, zf_mul, zf_ild 2, zf_add, zf_ald 0, zf_getR 19 7, zf_ild 2, zf_aldI 100, zf_astI, zf_inc 2 1, zf_go 97], 126),
  (126, [zf_inc 1 2, zf_go 2], 132),
  (132, [zf_ald 0, zf_ald 0, zf_getI 19 15, zf_ic 1, zf_add, zf_ic 2, zf_div, zf_putI 19 15, zf_ret], 145)]
theorem zT19_12 (h : Nat) : zTab h 19 12 3 (zt19_12 h) := zTab.mk (ret := none) (bl := xk19_12) (by decide +kernel) (by decide +kernel) rfl rfl
def zt19_13 (h : Nat) : ZB := [(0, [zf_ald 0, zf_getI 19 17, zf_ic 5, zf_ic2 .lt 21, zf_ald 0, zf_ald 0, zf_getR 19 18, zf_ic 0, zf_aldI 100, zf_inv h 19 18 1, zf_if .ne 23], 21),
  (21, [zf_ic 0, zf_retz], 23),
  (23, [zf_ald 0, zf_getR 19 18, zf_ic 3, zf_aldI 100, zf_ist 1, zf_ild 1, zf_ic 64, zf_ic2 .gt 68, zf_ic 5, zf_ild 1, zf_add, zf_ald 0, zf_getI 19 17, zf_ic2 .gt 68, zf_ald 0, zf_getI 19 17, zf_ic 5, zf_ild 1, zf_add, zf_ic 33, zf_ald 0, zf_getR 19 18, zf_ic 4, zf_ild 1, zf_add, zf_aldI 100, zf_mul, zf_add, zf_ic2 .eq 70], 68),
  (68, [zf_ic 0, zf_retz], 70),
  (70, [zf_ald 0, zf_ic 0, zf_inv h 19 25 1, zf_ald 0, zf_ald 0, zf_getR 19 18, zf_ic 1, zf_aldI 100, zf_inv h 19 25 1, zf_ald 0, zf_ald 0, zf_getR 19 18, zf_ic 2, zf_aldI 100, zf_inv h 19 25 1, zf_ic 0, zf_ist 2], 97),
  (97, [zf_ild 2, zf_ild 1, zf_ic2 .ge 120, zf_ald 0, zf_ald 0, zf_getR 19 18, zf_ic 4, zf_ild 2, zf_add, zf_aldI 100, zf_inv h 19 25 1, zf_inc 2 1, zf_go 97], 120),
  (120, [zf_ald 0, zf_inv h 19 8 0, zf_ic 0, zf_ist 2], 126),
  (126, [zf_ild 2, zf_ic 32, zf_ic2 .ge 150, zf_ald 0, zf_getR 19 16, zf_ild 2, zf_ald 0, zf_getR 19 7, zf_ild 2, zf_aldI 100, zf_astI, zf_inc 2 1, zf_go 126], 150),
  (150, [zf_ic 1, zf_ist 2, zf_ic 5, zf_ild 1, zf_add, zf_ist 3], 156),
  (156, [zf_ild 3, zf_ald 0, zf_getI 19 17, zf_ic2 .ge 278, zf_ild 2, zf_if .eq 278, zf_ald 0, zf_getR 19 18, zf_ild 3, zf_aldI 100, zf_ic 2, zf_ic2 .ge 182, zf_ic 1, zf_go 183], 182),
  (182, [zf_ic 0], 183),
  (183, [zf_ist 2, zf_ald 0, zf_ic 1, zf_inv h 19 25 1, zf_ald 0, zf_getR 19 18, zf_ild 3, zf_aldI 100, zf_if .ne 209, zf_ald 0, zf_ald 0, zf_getR 19 18, zf_ild 3, zf_ic 1, zf_add, zf_inv h 19 26 2], 209),
  (209, [zf_ald 0, zf_ald 0, zf_getR 19 16, zf_ic 0, zf_inv h 19 26 2, zf_ald 0, zf_getR 19 18, zf_ild 3, zf_aldI 100, zf_if .eq 238, zf_ald 0, zf_ald 0, zf_getR 19 18, zf_ild 3, zf_ic 1, zf_add, zf_inv h 19 26 2], 238),
  (238, [zf_ald 0, zf_inv h 19 8 0, zf_ic 0, zf_ist 4], 245),
  (245, [zf_ild 4, zf_ic 32, zf_ic2 .ge 272, zf_ald 0, zf_getR 19 16, zf_ild 4, zf_ald 0, zf_getR 19 7, zf_ild 4, zf_aldI 100, zf_astI, zf_inc 4 1, zf_go 245], 272),
  (272, [zf_inc 3 33, zf_go 156], 278),
  (278, [zf_ic 0, zf_ist 3], 280),
  (280, [zf_ild 3, zf_ic 32, zf_ic2 .ge 327, zf_ild 2, zf_if .eq 319, zf_ald 0, zf_getR 19 16, zf_ild 3, zf_aldI 100, zf_ald 0, zf_getR 19 14, zf_ic 32, zf_ald 0, zf_getR 19 18, zf_ic 0, zf_aldI 100, zf_mul, zf_ild 3, zf_add, zf_aldI 100, zf_ic2 .ne 319, zf_ic 1, zf_go 320], 319),
  (319, [zf_ic 0], 320),
  (320, [zf_ist 2, zf_inc 3 1, zf_go 280], 327),
  (327, [zf_ild 2, zf_retz], 329)]
theorem zT19_13 (h : Nat) : zTab h 19 13 5 (zt19_13 h) := zTab.mk (ret := (some .boolean)) (bl := xk19_13) (by decide +kernel) (by decide +kernel) rfl rfl
def zt19_15 (h : Nat) : ZB := [(0, [zf_ic 0, zf_ist 2, zf_ic 0, zf_ist 3], 4),
  (4, [zf_ild 3, zf_ic 16, zf_ic2 .ge 50, zf_ald 0, zf_getR 19 19, zf_ic 16, zf_ild 1, zf_mul, zf_ild 3, zf_add, zf_aldI 100, zf_if .le 42, zf_ild 2, zf_ic 1, zf_ald 0, zf_getR 19 19, zf_ic 16, zf_ild 1, zf_mul, zf_ild 3, zf_add, zf_aldI 100, zf_bit zshl, zf_bit zor, zf_go 43], 42),
  (42, [zf_ild 2], 43),
  (43, [zf_ist 2, zf_inc 3 1, zf_go 4], 50),
  (50, [zf_ild 2, zf_ild 2, zf_ic 1, zf_sub, zf_bit zand, zf_if .eq 62, zf_ic 1, zf_go 63], 62),
  (62, [zf_ic 0], 63),
  (63, [zf_retz], 64)]
theorem zT19_15 (h : Nat) : zTab h 19 15 4 (zt19_15 h) := zTab.mk (ret := (some .boolean)) (bl := xk19_15) (by decide +kernel) (by decide +kernel) rfl rfl
def zt19_16 (h : Nat) : ZB := [(0, [zf_ild 0, zf_if .lt 15, zf_ild 0, zf_ic 256, zf_ic2 .ge 15, zf_ic 1, zf_go 16], 15),
  (15, [zf_ic 0], 16),
  (16, [zf_retz], 17)]
theorem zT19_16 (h : Nat) : zTab h 19 16 1 (zt19_16 h) := zTab.mk (ret := (some .boolean)) (bl := xk19_16) (by decide +kernel) (by decide +kernel) rfl rfl
def zt19_17 (h : Nat) : ZB := [(0, [zf_ald 0, zf_ild 1, zf_inv h 19 18 1, zf_if .eq 26, zf_ild 2, zf_if .lt 26, zf_ild 2, zf_ald 0, zf_getR 19 9, zf_ild 1, zf_aldI 100, zf_ic2 .ge 26, zf_ic 1, zf_go 27], 26),
  (26, [zf_ic 0], 27),
  (27, [zf_retz], 28)]
theorem zT19_17 (h : Nat) : zTab h 19 17 3 (zt19_17 h) := zTab.mk (ret := (some .boolean)) (bl := xk19_17) (by decide +kernel) (by decide +kernel) rfl rfl
def zt19_18 (h : Nat) : ZB := [(0, [zf_ild 1, zf_if .lt 16, zf_ild 1, zf_ald 0, zf_getI 19 8, zf_ic2 .ge 16, zf_ic 1, zf_go 17], 16),
  (16, [zf_ic 0], 17),
  (17, [zf_retz], 18)]
theorem zT19_18 (h : Nat) : zTab h 19 18 2 (zt19_18 h) := zTab.mk (ret := (some .boolean)) (bl := xk19_18) (by decide +kernel) (by decide +kernel) rfl rfl
def zt19_19 (h : Nat) : ZB := [(0, [zf_ald 0, zf_ald 0, zf_getR 19 9, zf_ild 1, zf_aldI 100, zf_putI 19 15, zf_ic 0, zf_ist 2], 12),
  (12, [zf_ild 2, zf_ic 32, zf_ald 0, zf_getI 19 15, zf_mul, zf_ic2 .ge 47, zf_ald 0, zf_getR 19 16, zf_ild 2, zf_ald 0, zf_getR 19 13, zf_ic 256, zf_ild 1, zf_mul, zf_ild 2, zf_add, zf_aldI 100, zf_astI, zf_inc 2 1, zf_go 12], 47),
  (47, [zf_ret], 48)]
theorem zT19_19 (h : Nat) : zTab h 19 19 3 (zt19_19 h) := zTab.mk (ret := none) (bl := xk19_19) (by decide +kernel) (by decide +kernel) rfl rfl
def zt19_20 (h : Nat) : ZB := [(0, [zf_ald 0, zf_ic 0, zf_putI 19 0, zf_ald 0, zf_getI 19 8, zf_reti], 10)]
theorem zT19_20 (h : Nat) : zTab h 19 20 1 (zt19_20 h) := zTab.mk (ret := (some .int)) (bl := xk19_20) (by decide +kernel) (by decide +kernel) rfl rfl
def zt19_21 (h : Nat) : ZB := [(0, [zf_ic (-1), zf_ist 2, zf_ic 0, zf_ist 3], 4),
  (4, [zf_ild 3, zf_ald 0, zf_getR 19 9, zf_ic 10, zf_aldI 100, zf_ic2 .ge 59, zf_ald 0, zf_getR 19 10, zf_ic 80, zf_ild 3, zf_add, zf_aldI 100, zf_ist 4, zf_ild 4, zf_ild 1, zf_ic2 .le 53, zf_ild 2, zf_ic (-1), zf_ic2 .eq 51, zf_ild 4, zf_ald 0, zf_getR 19 10, zf_ic 80, zf_ild 2, zf_add, zf_aldI 100, zf_ic2 .ge 53], 51),
  (51, [zf_ild 3, zf_ist 2], 53),
  (53, [zf_inc 3 1, zf_go 4], 59),
  (59, [zf_ild 2, zf_reti], 61)]
theorem zT19_21 (h : Nat) : zTab h 19 21 5 (zt19_21 h) := zTab.mk (ret := (some .int)) (bl := xk19_21) (by decide +kernel) (by decide +kernel) rfl rfl
def zt19_22 (h : Nat) : ZB := [(0, [zf_ald 0, zf_getI 19 24, zf_ic 100, zf_ic2 .ne 10, zf_ret], 10),
  (10, [zf_ald 0, zf_getR 19 25, zf_ald 0, zf_getI 19 24, zf_ild 1, zf_astI, zf_ald 0, zf_getR 19 26, zf_ald 0, zf_getI 19 24, zf_ild 2, zf_astI, zf_ald 0, zf_getR 19 27, zf_ald 0, zf_getI 19 24, zf_ild 3, zf_astI, zf_ald 0, zf_getR 19 28, zf_ald 0, zf_getI 19 24, zf_ild 4, zf_astI, zf_ald 0, zf_dup, zf_getI 19 24, zf_ic 1, zf_add, zf_putI 19 24, zf_ret], 62)]
theorem zT19_22 (h : Nat) : zTab h 19 22 5 (zt19_22 h) := zTab.mk (ret := none) (bl := xk19_22) (by decide +kernel) (by decide +kernel) rfl rfl
def zt19_23 (h : Nat) : ZB := [(0, [zf_ald 0, zf_ild 1, zf_if .lt 17, zf_ild 1, zf_ald 0, zf_getI 19 17, zf_ic2 .ge 17, zf_ic 0, zf_go 18], 17),
  (17, [zf_ic 1], 18),
  (18, [zf_putI 19 0, zf_ald 0, zf_getI 19 0, zf_if .eq 30, zf_ic 0, zf_retz], 30),
  (30, [zf_ald 0, zf_getR 19 18, zf_ild 1, zf_ald 0, zf_getR 19 18, zf_ild 1, zf_aldI 100, zf_ild 2, zf_ic 255, zf_bit zand, zf_bit zxor, zf_astI, zf_ild 2, zf_ic 255, zf_bit zand, zf_if .eq 60, zf_ic 1, zf_go 61], 60),
  (60, [zf_ic 0], 61),
  (61, [zf_retz], 62)]
theorem zT19_23 (h : Nat) : zTab h 19 23 3 (zt19_23 h) := zTab.mk (ret := (some .boolean)) (bl := xk19_23) (by decide +kernel) (by decide +kernel) rfl rfl
def zt19_24 (h : Nat) : ZB := [(0, [zf_ald 0, zf_ald 0, zf_ild 1, zf_ild 2, zf_inv h 19 17 2, zf_if .eq 18, zf_ild 3, zf_if .lt 18, zf_ic 0, zf_go 19], 18),
  (18, [zf_ic 1], 19),
  (19, [zf_putI 19 0, zf_ald 0, zf_getI 19 0, zf_if .eq 31, zf_ic 0, zf_reti], 31),
  (31, [zf_ald 0, zf_ild 3, zf_inv h 19 1 1, zf_ald 0, zf_ild 2, zf_ald 0, zf_getR 19 9, zf_ild 1, zf_aldI 100, zf_inst h 19 30 2, zf_inv h 19 28 1, zf_ald 0, zf_ild 1, zf_inv h 19 19 1, zf_ild 2, zf_ist 4], 58),
  (58, [zf_ald 0, zf_getI 19 15, zf_ic 1, zf_ic2 .le 143, zf_ild 4, zf_ic 1, zf_bit zxor, zf_ist 5, zf_ild 5, zf_ald 0, zf_getI 19 15, zf_ic2 .ge 130, zf_ald 0, zf_ild 5, zf_ild 4, zf_ic2 .ge 93, zf_ic 0, zf_go 94], 93),
  (93, [zf_ic 1], 94),
  (94, [zf_inv h 19 28 1, zf_ic 0, zf_ist 6], 100),
  (100, [zf_ild 6, zf_ic 32, zf_ic2 .ge 130, zf_ald 0, zf_ald 0, zf_getR 19 16, zf_ic 32, zf_ild 5, zf_mul, zf_ild 6, zf_add, zf_aldI 100, zf_inv h 19 28 1, zf_inc 6 1, zf_go 100], 130),
  (130, [zf_ald 0, zf_inv h 19 12 0, zf_ild 4, zf_ic 2, zf_div, zf_ist 4, zf_go 58], 143),
  (143, [zf_ald 0, zf_getI 19 31, zf_reti], 148)]
theorem zT19_24 (h : Nat) : zTab h 19 24 7 (zt19_24 h) := zTab.mk (ret := (some .int)) (bl := xk19_24) (by decide +kernel) (by decide +kernel) rfl rfl
def zt19_25 (h : Nat) : ZB := [(0, [zf_ald 0, zf_getR 19 3, zf_ald 0, zf_getI 19 2, zf_ild 1, zf_astI, zf_ald 0, zf_dup, zf_getI 19 2, zf_ic 1, zf_add, zf_putI 19 2, zf_ret], 21)]
theorem zT19_25 (h : Nat) : zTab h 19 25 2 (zt19_25 h) := zTab.mk (ret := none) (bl := xk19_25) (by decide +kernel) (by decide +kernel) rfl rfl
def zt19_26 (h : Nat) : ZB := [(0, [zf_ic 0, zf_ist 3], 2),
  (2, [zf_ild 3, zf_ic 32, zf_ic2 .ge 23, zf_ald 0, zf_ald 1, zf_ild 2, zf_ild 3, zf_add, zf_aldI 100, zf_inv h 19 25 1, zf_inc 3 1, zf_go 2], 23),
  (23, [zf_ret], 24)]
theorem zT19_26 (h : Nat) : zTab h 19 26 4 (zt19_26 h) := zTab.mk (ret := none) (bl := xk19_26) (by decide +kernel) (by decide +kernel) rfl rfl
def zt19_27 (h : Nat) : ZB := [(0, [zf_ald 0, zf_ald 0, zf_ild 1, zf_inv h 19 18 1, zf_if .eq 23, zf_ild 2, zf_if .lt 23, zf_ild 2, zf_ic 32, zf_ic2 .ge 23, zf_ic 0, zf_go 24], 23),
  (23, [zf_ic 1], 24),
  (24, [zf_putI 19 0, zf_ald 0, zf_getI 19 0, zf_if .ne 48, zf_ald 0, zf_getR 19 14, zf_ic 32, zf_ild 1, zf_mul, zf_ild 2, zf_add, zf_aldI 100, zf_go 49], 48),
  (48, [zf_ic 0], 49),
  (49, [zf_reti], 50)]
theorem zT19_27 (h : Nat) : zTab h 19 27 3 (zt19_27 h) := zTab.mk (ret := (some .int)) (bl := xk19_27) (by decide +kernel) (by decide +kernel) rfl rfl
def zt19_28 (h : Nat) : ZB := [(0, [zf_ald 0, zf_getI 19 30, zf_ald 0, zf_getI 19 29, zf_ic2 .ne 16, zf_ald 0, zf_ild 1, zf_putI 19 31], 16),
  (16, [zf_ald 0, zf_dup, zf_getI 19 30, zf_ic 1, zf_add, zf_putI 19 30, zf_ret], 27)]
theorem zT19_28 (h : Nat) : zTab h 19 28 2 (zt19_28 h) := zTab.mk (ret := none) (bl := xk19_28) (by decide +kernel) (by decide +kernel) rfl rfl
def zt19_29 (h : Nat) : ZB := [(0, [zf_ald 0, zf_ald 0, zf_ild 1, zf_inv h 19 18 1, zf_if .eq 13, zf_ic 0, zf_go 14], 13),
  (13, [zf_ic 1], 14),
  (14, [zf_putI 19 0, zf_ald 0, zf_getI 19 0, zf_if .eq 26, zf_ic 0, zf_reti], 26),
  (26, [zf_ald 0, zf_getR 19 20, zf_ild 1, zf_aldB, zf_if .ne 52, zf_ald 0, zf_ild 1, zf_inv h 19 15 1, zf_if .eq 52, zf_ald 0, zf_getI 19 22, zf_ic 60, zf_ic2 .ne 54], 52),
  (52, [zf_ic (-1), zf_reti], 54),
  (54, [zf_ald 0, zf_getR 19 23, zf_ald 0, zf_getI 19 22, zf_ild 1, zf_astI, zf_ald 0, zf_ild 1, zf_ic 1, zf_ald 0, zf_getI 19 22, zf_ic (-1), zf_inv h 19 22 4, zf_ald 0, zf_dup, zf_getI 19 22, zf_ic 1, zf_add, zf_putI 19 22, zf_ald 0, zf_getI 19 22, zf_ic 1, zf_sub, zf_reti], 92)]
theorem zT19_29 (h : Nat) : zTab h 19 29 2 (zt19_29 h) := zTab.mk (ret := (some .int)) (bl := xk19_29) (by decide +kernel) (by decide +kernel) rfl rfl
def zt19_30 (h : Nat) : ZB := [(0, [zf_ic 0, zf_ist 2, zf_ild 0, zf_ist 3, zf_ild 1, zf_ist 4], 7),
  (7, [zf_ild 4, zf_ic 1, zf_ic2 .le 44, zf_ild 2, zf_ild 3, zf_ic 1, zf_bit zxor, zf_ild 4, zf_ic2 .ge 26, zf_ic 1, zf_go 27], 26),
  (26, [zf_ic 0], 27),
  (27, [zf_add, zf_ist 2, zf_ild 3, zf_ic 2, zf_div, zf_ist 3, zf_ild 4, zf_ic 1, zf_add, zf_ic 2, zf_div, zf_ist 4, zf_go 7], 44),
  (44, [zf_ild 2, zf_reti], 46)]
theorem zT19_30 (h : Nat) : zTab h 19 30 5 (zt19_30 h) := zTab.mk (ret := (some .int)) (bl := xk19_30) (by decide +kernel) (by decide +kernel) rfl rfl
def zt19_31 (h : Nat) : ZB := [(0, [zf_ald 0, zf_ild 1, zf_lld 2, zf_inv h 19 32 2, zf_ald 0, zf_ild 1, zf_ic 2, zf_add, zf_lld 4, zf_inv h 19 32 2, zf_ald 0, zf_ild 1, zf_ic 4, zf_add, zf_lld 6, zf_inv h 19 32 2, zf_ald 0, zf_ild 1, zf_ic 6, zf_add, zf_lld 8, zf_inv h 19 32 2, zf_ret], 35)]
theorem zT19_31 (h : Nat) : zTab h 19 31 10 (zt19_31 h) := zTab.mk (ret := none) (bl := xk19_31) (by decide +kernel) (by decide +kernel) rfl rfl
def zt19_32 (h : Nat) : ZB := [(0, [zf_ald 0, zf_getR 19 1, zf_ild 1, zf_lld 2, zf_ic 32, zf_lsh zlshr, zf_l2i, zf_astI, zf_ald 0, zf_getR 19 1, zf_ild 1, zf_ic 1, zf_add, zf_lld 2, zf_l2i, zf_astI, zf_ret], 22)]
theorem zT19_32 (h : Nat) : zTab h 19 32 4 (zt19_32 h) := zTab.mk (ret := none) (bl := xk19_32) (by decide +kernel) (by decide +kernel) rfl rfl
def zt19_33 (h : Nat) : ZB := [(0, [zf_ald 0, zf_getI 19 0, zf_reti], 5)]
theorem zT19_33 (h : Nat) : zTab h 19 33 1 (zt19_33 h) := zTab.mk (ret := (some .int)) (bl := xk19_33) (by decide +kernel) (by decide +kernel) rfl rfl
def zt19_34 (h : Nat) : ZB := [(0, [zf_ild 0, zf_ild 1, zf_bit zushr, zf_ild 0, zf_ic 32, zf_ild 1, zf_sub, zf_bit zshl, zf_bit zor, zf_reti], 11)]
theorem zT19_34 (h : Nat) : zTab h 19 34 2 (zt19_34 h) := zTab.mk (ret := (some .int)) (bl := xk19_34) (by decide +kernel) (by decide +kernel) rfl rfl
def zt19_35 (h : Nat) : ZB := [(0, [zf_ald 0, zf_ald 0, zf_ild 1, zf_inv h 19 18 1, zf_if .eq 13, zf_ic 0, zf_go 14], 13),
  (13, [zf_ic 1], 14),
  (14, [zf_putI 19 0, zf_ald 0, zf_getI 19 0, zf_if .eq 26, zf_ic 0, zf_reti], 26),
  (26, [zf_ald 0, zf_getR 19 20, zf_ild 1, zf_aldB, zf_if .eq 37, zf_ic (-1), zf_reti], 37),
  (37, [zf_ald 0, zf_getR 19 20, zf_ild 1, zf_ic 1, zf_astB, zf_ald 0, zf_dup, zf_getI 19 21, zf_ic 1, zf_add, zf_putI 19 21, zf_ald 0, zf_ild 1, zf_ic 2, zf_ic (-1), zf_ic (-1), zf_inv h 19 22 4, zf_ald 0, zf_getI 19 21, zf_reti], 67)]
theorem zT19_35 (h : Nat) : zTab h 19 35 2 (zt19_35 h) := zTab.mk (ret := (some .int)) (bl := xk19_35) (by decide +kernel) (by decide +kernel) rfl rfl
