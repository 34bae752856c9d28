/-! TABLES of what methods of class 5 ask -/
def zt5_0 (h : Nat) : ZB := [(0, [zf_ald 1, zf_ic 0, zf_inv h 1 56 1, zf_ald 0, zf_getI 5 0, zf_ic 10, zf_ic2 .ge 24, zf_ald 1, zf_getI 1 17, zf_ic 512, zf_ic2 .le 26], 24),
  (24, [zf_ic (-1), zf_reti], 26),
  (26, [zf_ild 2, zf_if .ne 33, zf_ic (-5), zf_reti], 33),
  (33, [zf_ald 0, zf_getI 5 0, zf_ist 3, zf_ald 0, zf_dup, zf_getI 5 0, zf_ic 1, zf_add, zf_putI 5 0, zf_ald 0, zf_getR 5 2, zf_ild 3, zf_ald 1, zf_getI 1 17, zf_astI, zf_ic 0, zf_ist 4], 61),
  (61, [zf_ild 4, zf_ald 1, zf_getI 1 17, zf_ic2 .ge 96, zf_ald 0, zf_getR 5 1, zf_ild 3, zf_ic 512, zf_mul, zf_ild 4, zf_add, zf_ald 1, zf_getR 1 16, zf_ild 4, zf_aldI 104, zf_astC, zf_inc 4 1, zf_go 61], 96),
  (96, [zf_ic 0, zf_ist 4], 99),
  (99, [zf_ild 4, zf_ic 16, zf_ic2 .ge 125, zf_ald 0, zf_getR 5 4, zf_ild 3, zf_ic 16, zf_mul, zf_ild 4, zf_add, zf_ic (-1), zf_astI, zf_inc 4 1, zf_go 99], 125),
  (125, [zf_ald 0, zf_getR 5 5, zf_ild 3, zf_ic 0, zf_astB, zf_ald 0, zf_ild 3, zf_inv h 5 6 1, zf_ild 3, zf_reti], 139)]
theorem zT5_0 (h : Nat) : zTab h 5 0 5 (zt5_0 h) := zTab.mk (ret := (some .int)) (bl := xk5_0) (by decide +kernel) (by decide +kernel) rfl rfl
def zt5_1 (h : Nat) : ZB := [(0, [zf_ald 0, zf_getI 5 8, zf_ald 0, zf_getR 5 7, zf_len, zf_ic2 .ge 36, zf_ald 0, zf_getR 5 7, zf_ald 0, zf_getI 5 8, zf_ild 1, zf_ic 255, zf_bit zand, zf_astI, zf_ald 0, zf_dup, zf_getI 5 8, zf_ic 1, zf_add, zf_putI 5 8], 36),
  (36, [zf_ret], 37)]
theorem zT5_1 (h : Nat) : zTab h 5 1 2 (zt5_1 h) := zTab.mk (ret := none) (bl := xk5_1) (by decide +kernel) (by decide +kernel) rfl rfl
def zt5_2 (h : Nat) : ZB := [(0, [zf_ald 0, zf_getI 5 13, zf_ist 3, zf_ald 0, zf_ic 0, zf_inv h 5 12 1, zf_ald 0, zf_ild 1, zf_inv h 5 14 1, zf_ist 4, zf_ild 1, zf_ic 480, zf_mul, zf_ist 5, zf_ild 2, zf_ist 6, zf_ic 0, zf_ist 7], 30),
  (30, [zf_ild 7, zf_ic 480, zf_ic2 .ge 163, zf_ild 4, zf_ic 1, zf_ic2 .le 163, zf_ild 6, zf_ic 2, zf_rem, zf_if .ne 58, zf_ild 6, zf_ic 1, zf_add, zf_go 62], 58),
  (58, [zf_ild 6, zf_ic 1, zf_sub], 62),
  (62, [zf_ist 8, zf_ild 8, zf_ild 4, zf_ic2 .ge 133, zf_ald 0, zf_getR 5 12, zf_ild 3, zf_dup2, zf_aldI 100, zf_ic 1, zf_add, zf_astI, zf_ald 0, zf_ild 8, zf_ild 6, zf_ic2 .ge 93, zf_ic 0, zf_go 94], 93),
  (93, [zf_ic 1], 94),
  (94, [zf_inv h 5 12 1, zf_ic 0, zf_ist 9], 100),
  (100, [zf_ild 9, zf_ic 32, zf_ic2 .ge 133, zf_ald 0, zf_ald 0, zf_getR 5 3, zf_ild 5, zf_ild 8, zf_ic 32, zf_mul, zf_add, zf_ild 9, zf_add, zf_aldI 100, zf_inv h 5 12 1, zf_inc 9 1, zf_go 100], 133),
  (133, [zf_ild 5, zf_ild 4, zf_ic 32, zf_mul, zf_add, zf_ist 5, zf_ild 4, zf_ic 1, zf_add, zf_ic 2, zf_div, zf_ist 4, zf_ild 6, zf_ic 2, zf_div, zf_ist 6, zf_inc 7 1, zf_go 30], 163),
  (163, [zf_ret], 164)]
theorem zT5_2 (h : Nat) : zTab h 5 2 10 (zt5_2 h) := zTab.mk (ret := none) (bl := xk5_2) (by decide +kernel) (by decide +kernel) rfl rfl
def zt5_3 (h : Nat) : ZB := [(0, [zf_ald 0, zf_ic 0, zf_putI 5 8, zf_ald 0, zf_ic 0, zf_inv h 5 1 1, zf_ald 0, zf_ild 1, zf_ic 256, zf_div, zf_inv h 5 1 1, zf_ald 0, zf_ild 1, zf_ic 256, zf_rem, zf_inv h 5 1 1, zf_ret], 29)]
theorem zT5_3 (h : Nat) : zTab h 5 3 2 (zt5_3 h) := zTab.mk (ret := none) (bl := xk5_3) (by decide +kernel) (by decide +kernel) rfl rfl
def zt5_4 (h : Nat) : ZB := [(0, [zf_ald 0, zf_ild 1, zf_ild 2, zf_inv h 5 10 2, zf_if .ne 11, zf_ic (-1), zf_reti], 11),
  (11, [zf_ald 0, zf_ic 0, zf_putI 5 13, zf_ald 0, zf_ild 1, zf_inv h 5 12 1, zf_ald 0, zf_ild 2, zf_ic 256, zf_div, zf_inv h 5 12 1, zf_ald 0, zf_ild 2, zf_ic 256, zf_rem, zf_inv h 5 12 1, zf_ald 0, zf_ald 0, zf_ild 1, zf_ild 2, zf_inv h 5 13 2, zf_inv h 5 12 1, zf_ic 0, zf_ist 5], 52),
  (52, [zf_ild 5, zf_ald 0, zf_ild 1, zf_ild 2, zf_inv h 5 13 2, zf_ic2 .ge 91, zf_ald 0, zf_ald 0, zf_getR 5 1, zf_ild 1, zf_ic 512, zf_mul, zf_ild 2, zf_ic 64, zf_mul, zf_add, zf_ild 5, zf_add, zf_aldI 104, zf_inv h 5 12 1, zf_inc 5 1, zf_go 52], 91),
  (91, [zf_ald 0, zf_ild 1, zf_ild 2, zf_inv h 5 2 2, zf_ild 3, zf_ic (-1), zf_ic2 .lt 110, zf_ild 3, zf_ald 0, zf_getI 5 13, zf_ic2 .lt 112], 110),
  (110, [zf_ic (-1), zf_reti], 112),
  (112, [zf_ild 3, zf_ic (-1), zf_ic2 .eq 132, zf_ald 0, zf_getR 5 12, zf_ild 3, zf_dup2, zf_aldI 100, zf_ild 4, zf_ic 255, zf_bit zand, zf_bit zxor, zf_astI], 132),
  (132, [zf_ald 0, zf_inv h 5 9 0, zf_if .eq 150, zf_ald 0, zf_inv h 5 20 0, zf_if .eq 150, zf_ic 1, zf_go 151], 150),
  (150, [zf_ic 0], 151),
  (151, [zf_reti], 152)]
theorem zT5_4 (h : Nat) : zTab h 5 4 6 (zt5_4 h) := zTab.mk (ret := (some .int)) (bl := xk5_4) (by decide +kernel) (by decide +kernel) rfl rfl
def zt5_5 (h : Nat) : ZB := [(0, [zf_ic 0, zf_ist 2], 2),
  (2, [zf_ild 2, zf_ic 16, zf_ic2 .ge 68, zf_ild 1, zf_ic 4, zf_ild 2, zf_mul, zf_add, zf_ist 3, zf_ald 0, zf_getR 5 10, zf_ild 2, zf_ald 0, zf_getR 5 7, zf_ild 3, zf_aldI 100, zf_ic 24, zf_bit zshl, zf_ald 0, zf_getR 5 7, zf_ild 3, zf_ic 1, zf_add, zf_aldI 100, zf_ic 16, zf_bit zshl, zf_bit zor, zf_ald 0, zf_getR 5 7, zf_ild 3, zf_ic 2, zf_add, zf_aldI 100, zf_ic 8, zf_bit zshl, zf_bit zor, zf_ald 0, zf_getR 5 7, zf_ild 3, zf_ic 3, zf_add, zf_aldI 100, zf_bit zor, zf_astI, zf_inc 2 1, zf_go 2], 68),
  (68, [zf_ic 16, zf_ist 2], 71),
  (71, [zf_ild 2, zf_ic 64, zf_ic2 .ge 176, zf_ald 0, zf_getR 5 10, zf_ild 2, zf_ic 15, zf_sub, zf_aldI 100, zf_ist 3, zf_ald 0, zf_getR 5 10, zf_ild 2, zf_ic 2, zf_sub, zf_aldI 100, zf_ist 4, zf_ild 3, zf_ic 7, zf_inst h 5 26 2, zf_ild 3, zf_ic 18, zf_inst h 5 26 2, zf_bit zxor, zf_ild 3, zf_ic 3, zf_bit zushr, zf_bit zxor, zf_ist 5, zf_ild 4, zf_ic 17, zf_inst h 5 26 2, zf_ild 4, zf_ic 19, zf_inst h 5 26 2, zf_bit zxor, zf_ild 4, zf_ic 10, zf_bit zushr, zf_bit zxor, zf_ist 6, zf_ald 0, zf_getR 5 10, zf_ild 2, zf_ald 0, zf_getR 5 10, zf_ild 2, zf_ic 16, zf_sub, zf_aldI 100, zf_ild 5, zf_add, zf_ald 0, zf_getR 5 10, zf_ild 2, zf_ic 7, zf_sub, zf_aldI 100, zf_add, zf_ild 6, zf_add, zf_astI, zf_inc 2 1, zf_go 71], 176),
  (176, [zf_ret], 177)]
theorem zT5_5 (h : Nat) : zTab h 5 5 7 (zt5_5 h) := zTab.mk (ret := none) (bl := xk5_5) (by decide +kernel) (by decide +kernel) rfl rfl
def zt5_6 (h : Nat) : ZB := [(0, [zf_ald 0, zf_ild 1, zf_inv h 5 14 1, zf_ist 2, zf_ild 1, zf_ic 480, zf_mul, zf_ist 3, zf_ic 0, zf_ist 4], 15),
  (15, [zf_ild 4, zf_ild 2, zf_ic2 .ge 99, zf_ald 0, zf_ild 4, zf_inv h 5 3 1, zf_ic 0, zf_ist 5], 30),
  (30, [zf_ild 5, zf_ald 0, zf_ild 1, zf_ild 4, zf_inv h 5 13 2, zf_ic2 .ge 71, zf_ald 0, zf_ald 0, zf_getR 5 1, zf_ild 1, zf_ic 512, zf_mul, zf_ild 4, zf_ic 64, zf_mul, zf_add, zf_ild 5, zf_add, zf_aldI 104, zf_inv h 5 1 1, zf_inc 5 1, zf_go 30], 71),
  (71, [zf_ald 0, zf_inv h 5 16 0, zf_ald 0, zf_getR 5 11, zf_ic 0, zf_ald 0, zf_getR 5 3, zf_ild 3, zf_ic 32, zf_copy, zf_inc 3 32, zf_inc 4 1, zf_go 15], 99),
  (99, [zf_ild 1, zf_ic 480, zf_mul, zf_ist 4, zf_ic 0, zf_ist 5], 109),
  (109, [zf_ild 5, zf_ic 480, zf_ic2 .ge 190, zf_ild 2, zf_ic 1, zf_ic2 .le 190, zf_ild 2, zf_ic 1, zf_add, zf_ic 2, zf_div, zf_ist 6, zf_ic 0, zf_ist 7], 132),
  (132, [zf_ild 7, zf_ild 6, zf_ic2 .ge 172, zf_ald 0, zf_ild 4, zf_ild 7, zf_ild 2, zf_inv h 5 15 3, zf_ald 0, zf_getR 5 11, zf_ic 0, zf_ald 0, zf_getR 5 3, zf_ild 3, zf_ic 32, zf_copy, zf_inc 3 32, zf_inc 7 1, zf_go 132], 172),
  (172, [zf_ild 4, zf_ild 2, zf_ic 32, zf_mul, zf_add, zf_ist 4, zf_ild 6, zf_ist 2, zf_inc 5 1, zf_go 109], 190),
  (190, [zf_ret], 191)]
theorem zT5_6 (h : Nat) : zTab h 5 6 8 (zt5_6 h) := zTab.mk (ret := none) (bl := xk5_6) (by decide +kernel) (by decide +kernel) rfl rfl
def zt5_8 (h : Nat) : ZB := [(0, [zf_ic (-1), zf_ist 2, zf_ic 0, zf_ist 3, zf_ic 0, zf_ist 4], 7),
  (7, [zf_ild 4, zf_ic 16, zf_ic2 .ge 64, zf_ald 0, zf_getR 5 4, zf_ild 1, zf_ic 16, zf_mul, zf_ild 4, zf_add, zf_aldI 100, zf_ist 5, zf_ild 5, zf_ic (-1), zf_ic2 .eq 58, zf_ild 3, zf_if .ne 49, zf_ild 2, zf_ic (-1), zf_ic2 .eq 53, zf_ild 2, zf_ild 5, zf_ic2 .eq 53], 49),
  (49, [zf_ic 1, zf_go 54], 53),
  (53, [zf_ic 0], 54),
  (54, [zf_ist 3, zf_ild 5, zf_ist 2], 58),
  (58, [zf_inc 4 1, zf_go 7], 64),
  (64, [zf_ild 3, zf_retz], 66)]
theorem zT5_8 (h : Nat) : zTab h 5 8 6 (zt5_8 h) := zTab.mk (ret := (some .boolean)) (bl := xk5_8) (by decide +kernel) (by decide +kernel) rfl rfl
def zt5_9 (h : Nat) : ZB := [(0, [zf_ic 4, zf_ald 0, zf_getR 5 12, zf_ic 3, zf_aldI 100, zf_add, zf_ist 1, zf_ald 0, zf_ald 0, zf_getR 5 12, zf_ic 0, zf_aldI 100, zf_inv h 5 11 1, zf_if .eq 41, zf_ald 0, zf_getR 5 12, zf_ic 3, zf_aldI 100, zf_ic 64, zf_ic2 .gt 41, zf_ild 1, zf_ald 0, zf_getI 5 13, zf_ic2 .lt 43], 41),
  (41, [zf_ic 0, zf_retz], 43),
  (43, [zf_ald 0, zf_getI 5 13, zf_ild 1, zf_ic 1, zf_add, zf_ald 0, zf_getR 5 12, zf_ild 1, zf_aldI 100, zf_ic 33, zf_mul, zf_add, zf_ic2 .ne 67, zf_ic 1, zf_go 68], 67),
  (67, [zf_ic 0], 68),
  (68, [zf_ist 2, zf_ild 1, zf_ic 1, zf_add, zf_ist 3], 73),
  (73, [zf_ild 3, zf_ald 0, zf_getI 5 13, zf_ic2 .ge 107, zf_ild 2, zf_if .eq 107, zf_ald 0, zf_getR 5 12, zf_ild 3, zf_aldI 100, zf_ic 1, zf_ic2 .gt 99, zf_ic 1, zf_go 100], 99),
  (99, [zf_ic 0], 100),
  (100, [zf_ist 2, zf_inc 3 33, zf_go 73], 107),
  (107, [zf_ild 2, zf_retz], 109)]
theorem zT5_9 (h : Nat) : zTab h 5 9 4 (zt5_9 h) := zTab.mk (ret := (some .boolean)) (bl := xk5_9) (by decide +kernel) (by decide +kernel) rfl rfl
def zt5_10 (h : Nat) : ZB := [(0, [zf_ild 2, zf_if .lt 17, zf_ild 2, zf_ald 0, zf_ild 1, zf_inv h 5 14 1, zf_ic2 .ge 17, zf_ic 1, zf_go 18], 17),
  (17, [zf_ic 0], 18),
  (18, [zf_retz], 19)]
theorem zT5_10 (h : Nat) : zTab h 5 10 3 (zt5_10 h) := zTab.mk (ret := (some .boolean)) (bl := xk5_10) (by decide +kernel) (by decide +kernel) rfl rfl
def zt5_11 (h : Nat) : ZB := [(0, [zf_ild 1, zf_if .lt 16, zf_ild 1, zf_ald 0, zf_getI 5 0, zf_ic2 .ge 16, zf_ic 1, zf_go 17], 16),
  (16, [zf_ic 0], 17),
  (17, [zf_retz], 18)]
theorem zT5_11 (h : Nat) : zTab h 5 11 2 (zt5_11 h) := zTab.mk (ret := (some .boolean)) (bl := xk5_11) (by decide +kernel) (by decide +kernel) rfl rfl
def zt5_12 (h : Nat) : ZB := [(0, [zf_ald 0, zf_getI 5 13, zf_ic 201, zf_ic2 .ge 30, zf_ald 0, zf_getR 5 12, zf_ald 0, zf_getI 5 13, zf_ild 1, zf_astI, zf_ald 0, zf_dup, zf_getI 5 13, zf_ic 1, zf_add, zf_putI 5 13], 30),
  (30, [zf_ret], 31)]
theorem zT5_12 (h : Nat) : zTab h 5 12 2 (zt5_12 h) := zTab.mk (ret := none) (bl := xk5_12) (by decide +kernel) (by decide +kernel) rfl rfl
def zt5_13 (h : Nat) : ZB := [(0, [zf_ic 64, zf_ald 0, zf_getR 5 2, zf_ild 1, zf_aldI 100, zf_ild 2, zf_ic 64, zf_mul, zf_sub, zf_min, zf_reti], 17)]
theorem zT5_13 (h : Nat) : zTab h 5 13 3 (zt5_13 h) := zTab.mk (ret := (some .int)) (bl := xk5_13) (by decide +kernel) (by decide +kernel) rfl rfl
def zt5_14 (h : Nat) : ZB := [(0, [zf_ald 0, zf_ild 1, zf_inv h 5 11 1, zf_if .eq 25, zf_ald 0, zf_getR 5 2, zf_ild 1, zf_aldI 100, zf_ic 64, zf_add, zf_ic 1, zf_sub, zf_ic 64, zf_div, zf_go 26], 25),
  (25, [zf_ic 0], 26),
  (26, [zf_reti], 27)]
theorem zT5_14 (h : Nat) : zTab h 5 14 2 (zt5_14 h) := zTab.mk (ret := (some .int)) (bl := xk5_14) (by decide +kernel) (by decide +kernel) rfl rfl
def zt5_15 (h : Nat) : ZB := [(0, [zf_ild 1, zf_ic 2, zf_ild 2, zf_mul, zf_ic 32, zf_mul, zf_add, zf_ist 4, zf_ic 2, zf_ild 2, zf_mul, zf_ic 1, zf_add, zf_ild 3, zf_ic2 .ge 66, zf_ald 0, zf_ic 0, zf_putI 5 8, zf_ald 0, zf_ic 1, zf_inv h 5 1 1, zf_ic 0, zf_ist 5], 32),
  (32, [zf_ild 5, zf_ic 64, zf_ic2 .ge 59, zf_ald 0, zf_ald 0, zf_getR 5 3, zf_ild 4, zf_ild 5, zf_add, zf_aldI 100, zf_inv h 5 1 1, zf_inc 5 1, zf_go 32], 59),
  (59, [zf_ald 0, zf_inv h 5 16 0, zf_go 82], 66),
  (66, [zf_ald 0, zf_getR 5 3, zf_ild 4, zf_ald 0, zf_getR 5 11, zf_ic 0, zf_ic 32, zf_copy], 82),
  (82, [zf_ret], 83)]
theorem zT5_15 (h : Nat) : zTab h 5 15 6 (zt5_15 h) := zTab.mk (ret := none) (bl := xk5_15) (by decide +kernel) (by decide +kernel) rfl rfl
def zt5_16 (h : Nat) : ZB := [(0, [zf_ald 0, zf_getI 5 8, zf_ic 8, zf_mul, zf_ist 1, zf_ald 0, zf_ic 128, zf_inv h 5 1 1, zf_ic 0, zf_ist 2], 17),
  (17, [zf_ild 2, zf_ic 64, zf_ic2 .ge 46, zf_ald 0, zf_getI 5 8, zf_ic 64, zf_rem, zf_ic 56, zf_ic2 .eq 46, zf_ald 0, zf_ic 0, zf_inv h 5 1 1, zf_inc 2 1, zf_go 17], 46),
  (46, [zf_ic 56, zf_ist 2], 49),
  (49, [zf_ild 2, zf_if .lt 76, zf_ald 0, zf_ild 2, zf_ic 32, zf_ic2 .ge 66, zf_ild 1, zf_ild 2, zf_bit zushr, zf_go 67], 66),
  (66, [zf_ic 0], 67),
  (67, [zf_inv h 5 1 1, zf_inc 2 (-8), zf_go 49], 76),
  (76, [zf_rc 4, zf_ic 0, zf_ald 0, zf_getR 5 9, zf_ic 0, zf_rc 4, zf_len, zf_copy, zf_ic 0, zf_ist 2], 94),
  (94, [zf_ild 2, zf_ic 64, zf_add, zf_ald 0, zf_getI 5 8, zf_ic2 .gt 120, zf_ald 0, zf_ild 2, zf_inv h 5 5 1, zf_ald 0, zf_inv h 5 17 0, zf_inc 2 64, zf_go 94], 120),
  (120, [zf_ic 0, zf_ist 2], 122),
  (122, [zf_ild 2, zf_ic 32, zf_ic2 .ge 162, zf_ald 0, zf_getR 5 11, zf_ild 2, zf_ald 0, zf_getR 5 9, zf_ild 2, zf_ic 4, zf_div, zf_aldI 100, zf_ic 24, zf_ild 2, zf_ic 4, zf_rem, zf_ic 8, zf_mul, zf_sub, zf_bit zushr, zf_ic 255, zf_bit zand, zf_astI, zf_inc 2 1, zf_go 122], 162),
  (162, [zf_ret], 163)]
theorem zT5_16 (h : Nat) : zTab h 5 16 3 (zt5_16 h) := zTab.mk (ret := none) (bl := xk5_16) (by decide +kernel) (by decide +kernel) rfl rfl
def zt5_17 (h : Nat) : ZB := [(0, [zf_ald 0, zf_getR 5 9, zf_ic 0, zf_aldI 100, zf_ist 1, zf_ald 0, zf_getR 5 9, zf_ic 1, zf_aldI 100, zf_ist 2, zf_ald 0, zf_getR 5 9, zf_ic 2, zf_aldI 100, zf_ist 3, zf_ald 0, zf_getR 5 9, zf_ic 3, zf_aldI 100, zf_ist 4, zf_ald 0, zf_getR 5 9, zf_ic 4, zf_aldI 100, zf_ist 5, zf_ald 0, zf_getR 5 9, zf_ic 5, zf_aldI 100, zf_ist 6, zf_ald 0, zf_getR 5 9, zf_ic 6, zf_aldI 100, zf_ist 7, zf_ald 0, zf_getR 5 9, zf_ic 7, zf_aldI 100, zf_ist 8, zf_ic 0, zf_ist 9], 66),
  (66, [zf_ild 9, zf_ic 64, zf_ic2 .ge 209, zf_ild 5, zf_ic 6, zf_inst h 5 26 2, zf_ild 5, zf_ic 11, zf_inst h 5 26 2, zf_bit zxor, zf_ild 5, zf_ic 25, zf_inst h 5 26 2, zf_bit zxor, zf_ist 10, zf_ild 8, zf_ild 10, zf_add, zf_ild 5, zf_ild 6, zf_bit zand, zf_ild 5, zf_ic (-1), zf_bit zxor, zf_ild 7, zf_bit zand, zf_bit zxor, zf_add, zf_rc 5, zf_ild 9, zf_aldI 100, zf_add, zf_ald 0, zf_getR 5 10, zf_ild 9, zf_aldI 100, zf_add, zf_ist 11, zf_ild 1, zf_ic 2, zf_inst h 5 26 2, zf_ild 1, zf_ic 13, zf_inst h 5 26 2, zf_bit zxor, zf_ild 1, zf_ic 22, zf_inst h 5 26 2, zf_bit zxor, zf_ist 12, zf_ild 12, zf_ild 1, zf_ild 2, zf_bit zand, zf_ild 1, zf_ild 3, zf_bit zand, zf_bit zxor, zf_ild 2, zf_ild 3, zf_bit zand, zf_bit zxor, zf_add, zf_ist 13, zf_ild 7, zf_ist 8, zf_ild 6, zf_ist 7, zf_ild 5, zf_ist 6, zf_ild 4, zf_ild 11, zf_add, zf_ist 5, zf_ild 3, zf_ist 4, zf_ild 2, zf_ist 3, zf_ild 1, zf_ist 2, zf_ild 11, zf_ild 13, zf_add, zf_ist 1, zf_inc 9 1, zf_go 66], 209),
  (209, [zf_ald 0, zf_getR 5 9, zf_ic 0, zf_dup2, zf_aldI 100, zf_ild 1, zf_add, zf_astI, zf_ald 0, zf_getR 5 9, zf_ic 1, zf_dup2, zf_aldI 100, zf_ild 2, zf_add, zf_astI, zf_ald 0, zf_getR 5 9, zf_ic 2, zf_dup2, zf_aldI 100, zf_ild 3, zf_add, zf_astI, zf_ald 0, zf_getR 5 9, zf_ic 3, zf_dup2, zf_aldI 100, zf_ild 4, zf_add, zf_astI, zf_ald 0, zf_getR 5 9, zf_ic 4, zf_dup2, zf_aldI 100, zf_ild 5, zf_add, zf_astI, zf_ald 0, zf_getR 5 9, zf_ic 5, zf_dup2, zf_aldI 100, zf_ild 6, zf_add, zf_astI, zf_ald 0, zf_getR 5 9, zf_ic 6, zf_dup2, zf_aldI 100, zf_ild 7, zf_add, zf_astI, zf_ald 0, zf_getR 5 9, zf_ic 7, zf_dup2, zf_aldI 100, zf_ild 8, zf_add, zf_astI, zf_ret], 297)]
theorem zT5_17 (h : Nat) : zTab h 5 17 14 (zt5_17 h) := zTab.mk (ret := none) (bl := xk5_17) (by decide +kernel) (by decide +kernel) rfl rfl
def zt5_18 (h : Nat) : ZB := [(0, [zf_ald 0, zf_ild 1, zf_inv h 5 11 1, zf_if .ne 11, zf_ic (-2), zf_reti], 11),
  (11, [zf_ald 0, zf_getI 5 6, zf_ic 60, zf_ic2 .lt 22, zf_ic (-1), zf_reti], 22),
  (22, [zf_ald 0, zf_getR 5 5, zf_ild 1, zf_aldB, zf_if .ne 39, zf_ald 0, zf_ild 1, zf_inv h 5 8 1, zf_if .ne 42], 39),
  (39, [zf_ic (-5), zf_reti], 42),
  (42, [zf_ald 0, zf_dup, zf_getI 5 6, zf_ic 1, zf_add, zf_putI 5 6, zf_ald 0, zf_getI 5 6, zf_ic 1, zf_sub, zf_reti], 59)]
theorem zT5_18 (h : Nat) : zTab h 5 18 2 (zt5_18 h) := zTab.mk (ret := (some .int)) (bl := xk5_18) (by decide +kernel) (by decide +kernel) rfl rfl
def zt5_19 (h : Nat) : ZB := [(0, [zf_ald 0, zf_ild 1, zf_ild 2, zf_inv h 5 10 2, zf_if .ne 11, zf_ic (-1), zf_reti], 11),
  (11, [zf_ald 0, zf_ic 0, zf_putI 5 13, zf_ald 0, zf_ild 1, zf_ild 2, zf_inv h 5 2 2, zf_ild 3, zf_if .lt 43, zf_ild 3, zf_ald 0, zf_getI 5 13, zf_ic2 .ge 43, zf_ald 0, zf_getR 5 12, zf_ild 3, zf_aldI 100, zf_go 44], 43),
  (43, [zf_ic (-1)], 44),
  (44, [zf_reti], 45)]
theorem zT5_19 (h : Nat) : zTab h 5 19 4 (zt5_19 h) := zTab.mk (ret := (some .int)) (bl := xk5_19) (by decide +kernel) (by decide +kernel) rfl rfl
def zt5_20 (h : Nat) : ZB := [(0, [zf_ic 4, zf_ald 0, zf_getR 5 12, zf_ic 3, zf_aldI 100, zf_add, zf_ist 1, zf_ald 0, zf_ald 0, zf_getR 5 12, zf_ic 1, zf_aldI 100, zf_ic 256, zf_mul, zf_ald 0, zf_getR 5 12, zf_ic 2, zf_aldI 100, zf_add, zf_inv h 5 3 1, zf_ic 4, zf_ist 2], 32),
  (32, [zf_ild 2, zf_ild 1, zf_ic2 .ge 53, zf_ald 0, zf_ald 0, zf_getR 5 12, zf_ild 2, zf_aldI 100, zf_inv h 5 1 1, zf_inc 2 1, zf_go 32], 53),
  (53, [zf_ald 0, zf_inv h 5 16 0, zf_ild 1, zf_ic 1, zf_add, zf_ist 2], 61),
  (61, [zf_ild 2, zf_ic 33, zf_add, zf_ald 0, zf_getI 5 13, zf_ic2 .gt 83, zf_ald 0, zf_ild 2, zf_inv h 5 25 1, zf_inc 2 33, zf_go 61], 83),
  (83, [zf_ic 1, zf_ist 2, zf_ic 0, zf_ist 3], 87),
  (87, [zf_ild 3, zf_ic 32, zf_ic2 .ge 129, zf_ild 2, zf_if .eq 129, zf_ald 0, zf_getR 5 11, zf_ild 3, zf_aldI 100, zf_ald 0, zf_ald 0, zf_getR 5 12, zf_ic 0, zf_aldI 100, zf_ild 3, zf_inv h 5 22 2, zf_ic2 .ne 121, zf_ic 1, zf_go 122], 121),
  (121, [zf_ic 0], 122),
  (122, [zf_ist 2, zf_inc 3 1, zf_go 87], 129),
  (129, [zf_ild 2, zf_retz], 131)]
theorem zT5_20 (h : Nat) : zTab h 5 20 4 (zt5_20 h) := zTab.mk (ret := (some .boolean)) (bl := xk5_20) (by decide +kernel) (by decide +kernel) rfl rfl
def zt5_21 (h : Nat) : ZB := [(0, [zf_ald 0, zf_ild 1, zf_inv h 5 14 1, zf_ist 2, zf_ild 1, zf_ic 480, zf_mul, zf_ist 3, zf_ic 0, zf_ist 4], 15),
  (15, [zf_ild 4, zf_ic 480, zf_ic2 .ge 47, zf_ild 2, zf_ic 1, zf_ic2 .le 47, zf_ild 3, zf_ild 2, zf_ic 32, zf_mul, zf_add, zf_ist 3, zf_ild 2, zf_ic 1, zf_add, zf_ic 2, zf_div, zf_ist 2, zf_inc 4 1, zf_go 15], 47),
  (47, [zf_ild 3, zf_reti], 49)]
theorem zT5_21 (h : Nat) : zTab h 5 21 5 (zt5_21 h) := zTab.mk (ret := (some .int)) (bl := xk5_21) (by decide +kernel) (by decide +kernel) rfl rfl
def zt5_22 (h : Nat) : ZB := [(0, [zf_ald 0, zf_ild 1, zf_inv h 5 11 1, zf_if .eq 33, zf_ild 2, zf_if .lt 33, zf_ild 2, zf_ic 32, zf_ic2 .ge 33, zf_ald 0, zf_getR 5 3, zf_ald 0, zf_ild 1, zf_inv h 5 21 1, zf_ild 2, zf_add, zf_aldI 100, zf_go 34], 33),
  (33, [zf_ic (-1)], 34),
  (34, [zf_reti], 35)]
theorem zT5_22 (h : Nat) : zTab h 5 22 3 (zt5_22 h) := zTab.mk (ret := (some .int)) (bl := xk5_22) (by decide +kernel) (by decide +kernel) rfl rfl
def zt5_23 (h : Nat) : ZB := [(0, [zf_ild 2, zf_if .lt 23, zf_ild 2, zf_ic 16, zf_ic2 .ge 23, zf_ild 3, zf_if .lt 23, zf_ild 3, zf_ic 4, zf_ic2 .ge 23, zf_ic 1, zf_go 24], 23),
  (23, [zf_ic 0], 24),
  (24, [zf_ist 4, zf_ald 0, zf_ild 1, zf_inv h 5 11 1, zf_if .eq 39, zf_ild 4, zf_if .ne 42], 39),
  (39, [zf_ic (-2), zf_reti], 42),
  (42, [zf_ald 0, zf_getR 5 4, zf_ild 1, zf_ic 16, zf_mul, zf_ild 2, zf_add, zf_ild 3, zf_astI, zf_ald 0, zf_ild 1, zf_inv h 5 8 1, zf_if .eq 66, zf_ic 1, zf_go 67], 66),
  (66, [zf_ic 0], 67),
  (67, [zf_reti], 68)]
theorem zT5_23 (h : Nat) : zTab h 5 23 5 (zt5_23 h) := zTab.mk (ret := (some .int)) (bl := xk5_23) (by decide +kernel) (by decide +kernel) rfl rfl
def zt5_24 (h : Nat) : ZB := [(0, [zf_ald 0, zf_ild 1, zf_inv h 5 11 1, zf_if .ne 11, zf_ic (-2), zf_reti], 11),
  (11, [zf_ald 0, zf_getR 5 5, zf_ild 1, zf_aldB, zf_if .eq 23, zf_ic (-4), zf_reti], 23),
  (23, [zf_ald 0, zf_getR 5 5, zf_ild 1, zf_ic 1, zf_astB, zf_ic 0, zf_reti], 32)]
theorem zT5_24 (h : Nat) : zTab h 5 24 2 (zt5_24 h) := zTab.mk (ret := (some .int)) (bl := xk5_24) (by decide +kernel) (by decide +kernel) rfl rfl
def zt5_25 (h : Nat) : ZB := [(0, [zf_ald 0, zf_getR 5 12, zf_ild 1, zf_aldI 100, zf_if .ne 13, zf_ic 1, zf_go 14], 13),
  (13, [zf_ic 0], 14),
  (14, [zf_ist 2, zf_ald 0, zf_ic 0, zf_putI 5 8, zf_ald 0, zf_ic 1, zf_inv h 5 1 1, zf_ic 0, zf_ist 3], 27),
  (27, [zf_ild 3, zf_ic 64, zf_ic2 .ge 95, zf_ild 3, zf_ic 32, zf_ic2 .ge 43, zf_ic 1, zf_go 44], 43),
  (43, [zf_ic 0], 44),
  (44, [zf_ild 2, zf_ic2 .ne 52, zf_ic 1, zf_go 53], 52),
  (52, [zf_ic 0], 53),
  (53, [zf_ist 4, zf_ald 0, zf_ild 4, zf_if .eq 77, zf_ald 0, zf_getR 5 12, zf_ild 1, zf_ic 1, zf_add, zf_ild 3, zf_ic 32, zf_rem, zf_add, zf_aldI 100, zf_go 86], 77),
  (77, [zf_ald 0, zf_getR 5 11, zf_ild 3, zf_ic 32, zf_rem, zf_aldI 100], 86),
  (86, [zf_inv h 5 1 1, zf_inc 3 1, zf_go 27], 95),
  (95, [zf_ald 0, zf_inv h 5 16 0, zf_ret], 100)]
theorem zT5_25 (h : Nat) : zTab h 5 25 5 (zt5_25 h) := zTab.mk (ret := none) (bl := xk5_25) (by decide +kernel) (by decide +kernel) rfl rfl
def zt5_26 (h : Nat) : ZB := [(0, [zf_ild 0, zf_ild 1, zf_bit zushr, zf_ild 0, zf_ic 32, zf_ild 1, zf_sub, zf_bit zshl, zf_bit zor, zf_reti], 11)]
theorem zT5_26 (h : Nat) : zTab h 5 26 2 (zt5_26 h) := zTab.mk (ret := (some .int)) (bl := xk5_26) (by decide +kernel) (by decide +kernel) rfl rfl
