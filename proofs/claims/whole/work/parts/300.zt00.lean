/-! TABLES of what methods of class 0 ask -/
def zt0_0 (h : Nat) : ZB := [(0, [zf_ald 0, zf_getI 0 0, zf_ic (-1), zf_ic2 .ne 11, zf_ic (-3), zf_reti], 11),
  (11, [zf_ald 0, zf_ild 1, zf_ild 2, zf_inv h 0 23 2, zf_ist 6, zf_ald 0, zf_ild 3, zf_ild 4, zf_ild 5, zf_inv h 0 5 3, zf_ist 7, zf_ild 6, zf_ic (-1), zf_ic2 .eq 42, zf_ild 7, zf_ic (-1), zf_ic2 .ne 45], 42),
  (42, [zf_ic (-2), zf_reti], 45),
  (45, [zf_ald 0, zf_ild 1, zf_ild 2, zf_inv h 0 9 2, zf_if .eq 57, zf_ic (-4), zf_reti], 57),
  (57, [zf_ald 0, zf_ild 6, zf_inv h 0 20 1, zf_ist 8, zf_ald 0, zf_getR 0 10, zf_inv h 7 2 0, zf_if .eq 91, zf_ild 8, zf_ic (-1), zf_ic2 .ne 93, zf_ald 0, zf_getR 0 11, zf_inv h 7 2 0, zf_if .ne 93], 91),
  (91, [zf_ic (-1), zf_reti], 93),
  (93, [zf_ild 8, zf_ic (-1), zf_ic2 .ne 122, zf_ald 0, zf_getR 0 11, zf_ild 6, zf_ic 0, zf_ic 0, zf_ic 0, zf_ic 0, zf_inv h 7 0 5, zf_ist 8, zf_ald 0, zf_getR 0 13, zf_ild 8, zf_ic 0, zf_astI], 122),
  (122, [zf_ald 0, zf_getR 0 6, zf_ild 7, zf_aldB, zf_if .ne 158, zf_ald 0, zf_getR 0 9, zf_ild 7, zf_aldI 100, zf_ic (-1), zf_ic2 .ne 158, zf_ald 0, zf_ild 7, zf_ild 8, zf_inv h 0 11 2, zf_if .ne 158, zf_ic 1, zf_go 159], 158),
  (158, [zf_ic 0], 159),
  (159, [zf_ist 9, zf_ild 9, zf_if .eq 180, zf_ald 0, zf_getR 0 11, zf_ild 8, zf_ic 1, zf_inv h 7 1 2, zf_ic 5, zf_ic2 .lt 183], 180),
  (180, [zf_ic (-4), zf_reti], 183),
  (183, [zf_ald 0, zf_ild 8, zf_inv h 0 15 1, zf_ald 0, zf_getR 0 10, zf_ild 1, zf_ild 2, zf_ild 7, zf_ild 8, zf_ic 0, zf_inv h 7 0 5, zf_ist 10, zf_ald 0, zf_getR 0 11, zf_ild 8, zf_ic 1, zf_ald 0, zf_getR 0 11, zf_ild 8, zf_ic 1, zf_inv h 7 1 2, zf_ic 1, zf_add, zf_inv h 7 4 3, zf_ald 0, zf_getR 0 9, zf_ild 7, zf_ild 10, zf_astI, zf_ald 0, zf_getR 0 8, zf_ild 7, zf_ild 8, zf_astI, zf_ild 10, zf_reti], 248)]
theorem zT0_0 (h : Nat) : zTab h 0 0 11 (zt0_0 h) := zTab.mk (ret := (some .int)) (bl := xk0_0) (by decide +kernel) (by decide +kernel) rfl rfl
def zt0_1 (h : Nat) : ZB := [(0, [zf_ild 1, zf_if .lt 50, zf_ild 1, zf_ic 12, zf_ic2 .ge 50, zf_ald 0, zf_getR 0 13, zf_ild 1, zf_aldI 100, zf_ic 1024, zf_ic2 .ge 50, zf_ald 0, zf_getR 0 12, zf_ild 1, zf_ic 1024, zf_mul, zf_ald 0, zf_getR 0 13, zf_ild 1, zf_aldI 100, zf_add, zf_ild 2, zf_astI, zf_ald 0, zf_getR 0 13, zf_ild 1, zf_dup2, zf_aldI 100, zf_ic 1, zf_add, zf_astI], 50),
  (50, [zf_ret], 51)]
theorem zT0_1 (h : Nat) : zTab h 0 1 3 (zt0_1 h) := zTab.mk (ret := none) (bl := xk0_1) (by decide +kernel) (by decide +kernel) rfl rfl
def zt0_2 (h : Nat) : ZB := [(0, [zf_ald 0, zf_getI 0 0, zf_ic (-1), zf_ic2 .ne 11, zf_ic (-3), zf_reti], 11),
  (11, [zf_ald 0, zf_ild 1, zf_ild 2, zf_ild 3, zf_inv h 0 5 3, zf_ist 4, zf_ild 4, zf_ic (-1), zf_ic2 .ne 29, zf_ic (-2), zf_reti], 29),
  (29, [zf_ald 0, zf_getR 0 6, zf_ild 4, zf_aldB, zf_if .ne 50, zf_ald 0, zf_getR 0 8, zf_ild 4, zf_aldI 100, zf_ic (-1), zf_ic2 .eq 53], 50),
  (50, [zf_ic (-4), zf_reti], 53),
  (53, [zf_ald 0, zf_getR 0 6, zf_ild 4, zf_ic 1, zf_astB, zf_ic 0, zf_reti], 63)]
theorem zT0_2 (h : Nat) : zTab h 0 2 5 (zt0_2 h) := zTab.mk (ret := (some .int)) (bl := xk0_2) (by decide +kernel) (by decide +kernel) rfl rfl
def zt0_3 (h : Nat) : ZB := [(0, [zf_ald 0, zf_dup, zf_getI 0 0, zf_ic 1, zf_add, zf_putI 0 0, zf_ald 0, zf_ild 1, zf_putI 0 1, zf_ald 0, zf_ild 2, zf_putI 0 2, zf_ald 0, zf_ild 3, zf_putI 0 3, zf_ald 0, zf_lld 4, zf_putL 0 4, zf_ald 0, zf_getR 0 10, zf_ic 0, zf_putI 7 2, zf_ald 0, zf_getR 0 11, zf_ic 0, zf_putI 7 2, zf_ic 0, zf_ist 6], 50),
  (50, [zf_ild 6, zf_ic 1024, zf_ic2 .ge 96, zf_ald 0, zf_getR 0 6, zf_ild 6, zf_ic 0, zf_astB, zf_ald 0, zf_getR 0 7, zf_ild 6, zf_ic 0, zf_astI, zf_ald 0, zf_getR 0 8, zf_ild 6, zf_ic (-1), zf_astI, zf_ald 0, zf_getR 0 9, zf_ild 6, zf_ic (-1), zf_astI, zf_inc 6 1, zf_go 50], 96),
  (96, [zf_ic 0, zf_ist 6], 99),
  (99, [zf_ild 6, zf_ic 4, zf_ic2 .ge 120, zf_ald 0, zf_ild 6, zf_ic 0, zf_ic 0, zf_ic 0, zf_inv h 0 22 4, zf_inc 6 1, zf_go 99], 120),
  (120, [zf_ald 0, zf_inv h 0 8 0, zf_ret], 125)]
theorem zT0_3 (h : Nat) : zTab h 0 3 7 (zt0_3 h) := zTab.mk (ret := none) (bl := xk0_3) (by decide +kernel) (by decide +kernel) rfl rfl
def zt0_4 (h : Nat) : ZB := [(0, [zf_ild 1, zf_if .lt 15, zf_ild 1, zf_ald 0, zf_getR 0 11, zf_getI 7 2, zf_ic2 .lt 17], 15),
  (15, [zf_ic (-1), zf_reti], 17),
  (17, [zf_ic 0, zf_ist 3, zf_ic 0, zf_ist 4], 22),
  (22, [zf_ild 4, zf_ic 12, zf_ic2 .ge 63, zf_ald 0, zf_getR 0 11, zf_ild 1, zf_ic 5, zf_inv h 7 1 2, zf_ild 4, zf_bit zshr, zf_ic 1, zf_bit zand, zf_if .eq 57, zf_ild 3, zf_ild 2, zf_ic2 .ne 54, zf_ild 4, zf_reti], 54),
  (54, [zf_inc 3 1], 57),
  (57, [zf_inc 4 1, zf_go 22], 63),
  (63, [zf_ic (-1), zf_reti], 65)]
theorem zT0_4 (h : Nat) : zTab h 0 4 5 (zt0_4 h) := zTab.mk (ret := (some .int)) (bl := xk0_4) (by decide +kernel) (by decide +kernel) rfl rfl
def zt0_5 (h : Nat) : ZB := [(0, [zf_ild 1, zf_if .lt 40, zf_ild 1, zf_ald 0, zf_getI 0 3, zf_ic2 .ge 40, zf_ild 2, zf_if .lt 40, zf_ild 2, zf_ald 0, zf_getI 0 1, zf_ic2 .ge 40, zf_ild 3, zf_if .lt 40, zf_ild 3, zf_ald 0, zf_getI 0 2, zf_ic2 .ge 40, zf_ic 1, zf_go 41], 40),
  (40, [zf_ic 0], 41),
  (41, [zf_ist 4, zf_ild 4, zf_if .eq 66, zf_ild 1, zf_ald 0, zf_getI 0 2, zf_mul, zf_ild 3, zf_add, zf_ald 0, zf_getI 0 1, zf_mul, zf_ild 2, zf_add, zf_go 67], 66),
  (66, [zf_ic (-1)], 67),
  (67, [zf_reti], 68)]
theorem zT0_5 (h : Nat) : zTab h 0 5 5 (zt0_5 h) := zTab.mk (ret := (some .int)) (bl := xk0_5) (by decide +kernel) (by decide +kernel) rfl rfl
def zt0_6 (h : Nat) : ZB := [(0, [zf_ild 1, zf_ald 0, zf_getI 0 1, zf_rem, zf_reti], 7)]
theorem zT0_6 (h : Nat) : zTab h 0 6 2 (zt0_6 h) := zTab.mk (ret := (some .int)) (bl := xk0_6) (by decide +kernel) (by decide +kernel) rfl rfl
def zt0_7 (h : Nat) : ZB := [(0, [zf_ald 0, zf_getR 0 16, zf_ald 0, zf_ild 1, zf_inv h 0 14 1, zf_aldI 100, zf_ist 3, zf_ald 0, zf_getR 0 7, zf_ild 1, zf_aldI 100, zf_ist 4, zf_ic 1, zf_ist 5], 22),
  (22, [zf_ild 5, zf_ic 4, zf_ic2 .gt 69, zf_ild 3, zf_if .le 69, zf_ald 0, zf_ild 1, zf_ild 5, zf_inv h 0 16 2, zf_ist 6, zf_ild 6, zf_ic (-1), zf_ic2 .eq 63, zf_ald 0, zf_ild 6, zf_ild 2, zf_inv h 0 11 2, zf_if .eq 63, zf_ild 4, zf_ild 3, zf_add, zf_ist 4], 63),
  (63, [zf_inc 5 1, zf_go 22], 69),
  (69, [zf_ild 4, zf_reti], 72)]
theorem zT0_7 (h : Nat) : zTab h 0 7 7 (zt0_7 h) := zTab.mk (ret := (some .int)) (bl := xk0_7) (by decide +kernel) (by decide +kernel) rfl rfl
def zt0_8 (h : Nat) : ZB := [(0, [zf_ic 0, zf_ist 1], 2),
  (2, [zf_ild 1, zf_ald 0, zf_getI 0 1, zf_ald 0, zf_getI 0 2, zf_mul, zf_ald 0, zf_getI 0 3, zf_mul, zf_ic2 .ge 163, zf_ald 0, zf_ild 1, zf_inv h 0 14 1, zf_ist 2, zf_ald 0, zf_ild 1, zf_inv h 0 6 1, zf_ist 3, zf_ald 0, zf_ild 1, zf_inv h 0 21 1, zf_ist 4, zf_ild 1, zf_ic 6, zf_mul, zf_ist 5, zf_ald 0, zf_getR 0 5, zf_ild 5, zf_ald 0, zf_ild 2, zf_ic 1, zf_sub, zf_ild 3, zf_ild 4, zf_inv h 0 5 3, zf_astI, zf_ald 0, zf_getR 0 5, zf_ild 5, zf_ic 1, zf_add, zf_ald 0, zf_ild 2, zf_ild 3, zf_ild 4, zf_ic 1, zf_sub, zf_inv h 0 5 3, zf_astI, zf_ald 0, zf_getR 0 5, zf_ild 5, zf_ic 2, zf_add, zf_ald 0, zf_ild 2, zf_ild 3, zf_ic 1, zf_sub, zf_ild 4, zf_inv h 0 5 3, zf_astI, zf_ald 0, zf_getR 0 5, zf_ild 5, zf_ic 3, zf_add, zf_ald 0, zf_ild 2, zf_ild 3, zf_ic 1, zf_add, zf_ild 4, zf_inv h 0 5 3, zf_astI, zf_ald 0, zf_getR 0 5, zf_ild 5, zf_ic 4, zf_add, zf_ald 0, zf_ild 2, zf_ild 3, zf_ild 4, zf_ic 1, zf_add, zf_inv h 0 5 3, zf_astI, zf_ald 0, zf_getR 0 5, zf_ild 5, zf_ic 5, zf_add, zf_ald 0, zf_ild 2, zf_ic 1, zf_add, zf_ild 3, zf_ild 4, zf_inv h 0 5 3, zf_astI, zf_inc 1 1, zf_go 2], 163),
  (163, [zf_ret], 164)]
theorem zT0_8 (h : Nat) : zTab h 0 8 6 (zt0_8 h) := zTab.mk (ret := none) (bl := xk0_8) (by decide +kernel) (by decide +kernel) rfl rfl
def zt0_9 (h : Nat) : ZB := [(0, [zf_ic 0, zf_ist 3, zf_ic 0, zf_ist 4], 5),
  (5, [zf_ild 4, zf_ald 0, zf_getR 0 10, zf_getI 7 2, zf_ic2 .ge 61, zf_ild 3, zf_if .ne 61, zf_ald 0, zf_getR 0 10, zf_ild 4, zf_ic 0, zf_inv h 7 1 2, zf_ild 1, zf_ic2 .ne 53, zf_ald 0, zf_getR 0 10, zf_ild 4, zf_ic 1, zf_inv h 7 1 2, zf_ild 2, zf_ic2 .ne 53, zf_ic 1, zf_go 54], 53),
  (53, [zf_ic 0], 54),
  (54, [zf_ist 3, zf_inc 4 1, zf_go 5], 61),
  (61, [zf_ild 3, zf_retz], 63)]
theorem zT0_9 (h : Nat) : zTab h 0 9 5 (zt0_9 h) := zTab.mk (ret := (some .boolean)) (bl := xk0_9) (by decide +kernel) (by decide +kernel) rfl rfl
def zt0_11 (h : Nat) : ZB := [(0, [zf_ald 0, zf_getR 0 8, zf_ild 1, zf_aldI 100, zf_ic (-1), zf_ic2 .eq 24, zf_ald 0, zf_getR 0 8, zf_ild 1, zf_aldI 100, zf_ild 2, zf_ic2 .eq 24, zf_ic 1, zf_go 25], 24),
  (24, [zf_ic 0], 25),
  (25, [zf_retz], 26)]
theorem zT0_11 (h : Nat) : zTab h 0 11 3 (zt0_11 h) := zTab.mk (ret := (some .boolean)) (bl := xk0_11) (by decide +kernel) (by decide +kernel) rfl rfl
def zt0_12 (h : Nat) : ZB := [(0, [zf_ald 0, zf_getR 0 11, zf_ild 1, zf_ic 2, zf_inv h 7 1 2, zf_ic 1, zf_ic2 .ne 17, zf_ic 1, zf_go 18], 17),
  (17, [zf_ic 0], 18),
  (18, [zf_retz], 19)]
theorem zT0_12 (h : Nat) : zTab h 0 12 2 (zt0_12 h) := zTab.mk (ret := (some .boolean)) (bl := xk0_12) (by decide +kernel) (by decide +kernel) rfl rfl
def zt0_13 (h : Nat) : ZB := [(0, [zf_ald 0, zf_getR 0 11, zf_ild 1, zf_ic 1, zf_inv h 7 1 2, zf_if .le 24, zf_ald 0, zf_ild 1, zf_inv h 0 12 1, zf_if .ne 24, zf_ic 1, zf_go 25], 24),
  (24, [zf_ic 0], 25),
  (25, [zf_retz], 26)]
theorem zT0_13 (h : Nat) : zTab h 0 13 2 (zt0_13 h) := zTab.mk (ret := (some .boolean)) (bl := xk0_13) (by decide +kernel) (by decide +kernel) rfl rfl
def zt0_14 (h : Nat) : ZB := [(0, [zf_ild 1, zf_ald 0, zf_getI 0 1, zf_div, zf_ald 0, zf_getI 0 2, zf_div, zf_reti], 12)]
theorem zT0_14 (h : Nat) : zTab h 0 14 2 (zt0_14 h) := zTab.mk (ret := (some .int)) (bl := xk0_14) (by decide +kernel) (by decide +kernel) rfl rfl
def zt0_15 (h : Nat) : ZB := [(0, [zf_ild 1, zf_if .lt 15, zf_ild 1, zf_ald 0, zf_getR 0 11, zf_getI 7 2, zf_ic2 .lt 16], 15),
  (15, [zf_ret], 16),
  (16, [zf_ic 0, zf_ist 2], 18),
  (18, [zf_ild 2, zf_ald 0, zf_getR 0 13, zf_ild 1, zf_aldI 100, zf_ic2 .ge 64, zf_ald 0, zf_getR 0 12, zf_ild 1, zf_ic 1024, zf_mul, zf_ild 2, zf_add, zf_aldI 100, zf_ist 3, zf_ald 0, zf_getR 0 9, zf_ild 3, zf_aldI 100, zf_ic (-1), zf_ic2 .ne 58, zf_ald 0, zf_getR 0 8, zf_ild 3, zf_ic (-1), zf_astI], 58),
  (58, [zf_inc 2 1, zf_go 18], 64),
  (64, [zf_ald 0, zf_getR 0 13, zf_ild 1, zf_ic 0, zf_astI, zf_ald 0, zf_getR 0 11, zf_ild 1, zf_ic 2, zf_ic 0, zf_inv h 7 4 3, zf_ret], 82)]
theorem zT0_15 (h : Nat) : zTab h 0 15 4 (zt0_15 h) := zTab.mk (ret := none) (bl := xk0_15) (by decide +kernel) (by decide +kernel) rfl rfl
def zt0_16 (h : Nat) : ZB := [(0, [zf_ald 0, zf_getR 0 5, zf_ild 1, zf_ic 6, zf_mul, zf_ild 2, zf_add, zf_aldI 100, zf_reti], 12)]
theorem zT0_16 (h : Nat) : zTab h 0 16 3 (zt0_16 h) := zTab.mk (ret := (some .int)) (bl := xk0_16) (by decide +kernel) (by decide +kernel) rfl rfl
def zt0_17 (h : Nat) : ZB := [(0, [zf_ic 0, zf_ist 1, zf_ic 0, zf_ist 2], 4),
  (4, [zf_ild 2, zf_ald 0, zf_getR 0 11, zf_getI 7 2, zf_ic2 .ge 32, zf_ald 0, zf_ild 2, zf_inv h 0 13 1, zf_if .eq 26, zf_inc 1 1], 26),
  (26, [zf_inc 2 1, zf_go 4], 32),
  (32, [zf_ild 1, zf_reti], 34)]
theorem zT0_17 (h : Nat) : zTab h 0 17 3 (zt0_17 h) := zTab.mk (ret := (some .int)) (bl := xk0_17) (by decide +kernel) (by decide +kernel) rfl rfl
def zt0_18 (h : Nat) : ZB := [(0, [zf_ald 0, zf_getR 0 10, zf_ild 1, zf_ic 2, zf_inv h 7 1 2, zf_reti], 10)]
theorem zT0_18 (h : Nat) : zTab h 0 18 2 (zt0_18 h) := zTab.mk (ret := (some .int)) (bl := xk0_18) (by decide +kernel) (by decide +kernel) rfl rfl
def zt0_19 (h : Nat) : ZB := [(0, [zf_ald 0, zf_getR 0 10, zf_ild 1, zf_ic 3, zf_inv h 7 1 2, zf_reti], 10)]
theorem zT0_19 (h : Nat) : zTab h 0 19 2 (zt0_19 h) := zTab.mk (ret := (some .int)) (bl := xk0_19) (by decide +kernel) (by decide +kernel) rfl rfl
def zt0_20 (h : Nat) : ZB := [(0, [zf_ic 0, zf_ist 2], 2),
  (2, [zf_ild 2, zf_ald 0, zf_getR 0 11, zf_getI 7 2, zf_ic2 .ge 34, zf_ald 0, zf_getR 0 11, zf_ild 2, zf_ic 0, zf_inv h 7 1 2, zf_ild 1, zf_ic2 .ne 28, zf_ild 2, zf_reti], 28),
  (28, [zf_inc 2 1, zf_go 2], 34),
  (34, [zf_ic (-1), zf_reti], 36)]
theorem zT0_20 (h : Nat) : zTab h 0 20 3 (zt0_20 h) := zTab.mk (ret := (some .int)) (bl := xk0_20) (by decide +kernel) (by decide +kernel) rfl rfl
def zt0_21 (h : Nat) : ZB := [(0, [zf_ild 1, zf_ald 0, zf_getI 0 1, zf_div, zf_ald 0, zf_getI 0 2, zf_rem, zf_reti], 12)]
theorem zT0_21 (h : Nat) : zTab h 0 21 2 (zt0_21 h) := zTab.mk (ret := (some .int)) (bl := xk0_21) (by decide +kernel) (by decide +kernel) rfl rfl
def zt0_22 (h : Nat) : ZB := [(0, [zf_ald 0, zf_getR 0 14, zf_ild 1, zf_ild 2, zf_astI, zf_ald 0, zf_getR 0 15, zf_ild 1, zf_ild 3, zf_astI, zf_ald 0, zf_getR 0 16, zf_ild 1, zf_ild 4, zf_astI, zf_ret], 23)]
theorem zT0_22 (h : Nat) : zTab h 0 22 5 (zt0_22 h) := zTab.mk (ret := none) (bl := xk0_22) (by decide +kernel) (by decide +kernel) rfl rfl
def zt0_23 (h : Nat) : ZB := [(0, [zf_ild 1, zf_if .lt 24, zf_ild 1, zf_ic 60, zf_ic2 .ge 24, zf_ild 2, zf_if .lt 24, zf_ild 2, zf_ic 16, zf_ic2 .ge 24, zf_ic 1, zf_go 25], 24),
  (24, [zf_ic 0], 25),
  (25, [zf_ist 3, zf_ild 3, zf_if .eq 44, zf_ald 0, zf_getR 0 17, zf_ild 1, zf_ic 16, zf_mul, zf_ild 2, zf_add, zf_aldI 100, zf_go 45], 44),
  (44, [zf_ic (-1)], 45),
  (45, [zf_reti], 46)]
theorem zT0_23 (h : Nat) : zTab h 0 23 4 (zt0_23 h) := zTab.mk (ret := (some .int)) (bl := xk0_23) (by decide +kernel) (by decide +kernel) rfl rfl
def zt0_24 (h : Nat) : ZB := [(0, [zf_ald 0, zf_ild 1, zf_inv h 0 14 1, zf_ist 3, zf_ild 2, zf_if .ne 29, zf_ic 2, zf_ild 3, zf_if .le 26, zf_ald 0, zf_getR 0 15, zf_ild 3, zf_ic 1, zf_sub, zf_aldI 100, zf_go 27], 26),
  (26, [zf_ic 0], 27),
  (27, [zf_add, zf_reti], 29),
  (29, [zf_ild 2, zf_ic 5, zf_ic2 .ne 43, zf_ic 2, zf_ald 0, zf_getR 0 15, zf_ild 3, zf_aldI 100, zf_add, zf_reti], 43),
  (43, [zf_ild 2, zf_ic 1, zf_ic2 .eq 53, zf_ild 2, zf_ic 4, zf_ic2 .ne 57], 53),
  (53, [zf_ic 1, zf_go 58], 57),
  (57, [zf_ic 0], 58),
  (58, [zf_ist 4, zf_ild 3, zf_ic 2, zf_rem, zf_if .ne 70, zf_ic 1, zf_go 71], 70),
  (70, [zf_ic 0], 71),
  (71, [zf_ist 5, zf_ild 4, zf_ild 5, zf_ic2 .ne 91, zf_ic 2, zf_ald 0, zf_getR 0 14, zf_ild 3, zf_aldI 100, zf_add, zf_go 92], 91),
  (91, [zf_ic 2], 92),
  (92, [zf_reti], 93)]
theorem zT0_24 (h : Nat) : zTab h 0 24 6 (zt0_24 h) := zTab.mk (ret := (some .int)) (bl := xk0_24) (by decide +kernel) (by decide +kernel) rfl rfl
def zt0_25 (h : Nat) : ZB := [(0, [zf_ic 0, zf_ist 2], 2),
  (2, [zf_ild 2, zf_ic 960, zf_ic2 .ge 33, zf_ald 0, zf_getR 0 17, zf_ild 2, zf_ald 1, zf_ild 2, zf_ic 16, zf_div, zf_ild 2, zf_ic 16, zf_rem, zf_inv h 3 31 2, zf_astI, zf_inc 2 1, zf_go 2], 33),
  (33, [zf_ret], 34)]
theorem zT0_25 (h : Nat) : zTab h 0 25 3 (zt0_25 h) := zTab.mk (ret := none) (bl := xk0_25) (by decide +kernel) (by decide +kernel) rfl rfl
def zt0_26 (h : Nat) : ZB := [(0, [zf_ild 2, zf_if .lt 28, zf_ild 2, zf_ald 0, zf_ild 1, zf_inv h 0 27 1, zf_ic2 .ge 28, zf_ald 0, zf_getR 0 12, zf_ild 1, zf_ic 1024, zf_mul, zf_ild 2, zf_add, zf_aldI 100, zf_go 29], 28),
  (28, [zf_ic (-1)], 29),
  (29, [zf_reti], 30)]
theorem zT0_26 (h : Nat) : zTab h 0 26 3 (zt0_26 h) := zTab.mk (ret := (some .int)) (bl := xk0_26) (by decide +kernel) (by decide +kernel) rfl rfl
def zt0_27 (h : Nat) : ZB := [(0, [zf_ild 1, zf_if .lt 24, zf_ild 1, zf_ald 0, zf_getR 0 11, zf_getI 7 2, zf_ic2 .ge 24, zf_ald 0, zf_getR 0 13, zf_ild 1, zf_aldI 100, zf_go 25], 24),
  (24, [zf_ic 0], 25),
  (25, [zf_reti], 26)]
theorem zT0_27 (h : Nat) : zTab h 0 27 2 (zt0_27 h) := zTab.mk (ret := (some .int)) (bl := xk0_27) (by decide +kernel) (by decide +kernel) rfl rfl
def zt0_28 (h : Nat) : ZB := [(0, [zf_ald 0, zf_ild 1, zf_inv h 0 12 1, zf_if .eq 17, zf_ald 0, zf_ild 1, zf_ild 2, zf_inv h 0 26 2, zf_go 18], 17),
  (17, [zf_ic (-1)], 18),
  (18, [zf_ist 4, zf_ild 4, zf_ic (-1), zf_ic2 .ne 28, zf_ic (-1), zf_reti], 28),
  (28, [zf_ild 3, zf_sw 77 0 2 [56, 63, 70]], 56),
  (56, [zf_ald 0, zf_ild 4, zf_inv h 0 14 1, zf_reti], 63),
  (63, [zf_ald 0, zf_ild 4, zf_inv h 0 6 1, zf_reti], 70),
  (70, [zf_ald 0, zf_ild 4, zf_inv h 0 21 1, zf_reti], 77),
  (77, [zf_ic (-1), zf_reti], 79)]
theorem zT0_28 (h : Nat) : zTab h 0 28 5 (zt0_28 h) := zTab.mk (ret := (some .int)) (bl := xk0_28) (by decide +kernel) (by decide +kernel) rfl rfl
