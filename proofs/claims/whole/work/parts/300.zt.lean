/-! TABLES of what methods ask -/
def zt0_0 (h : Nat) : ZB := [(0, [zf_ald 0, zf_getI 0 0, zf_ic (-1), zf_ic2 .ne 11, zf_ic (-3), zf_reti], 11),
  (11, [zf_ald 0, zf_ild 1, zf_ild 2, zf_inv h 0 23 2, zf_ist 6, zf_ald 0, zf_ild 3, zf_ild 4, zf_ild 5, zf_inv h 0 5 3, zf_ist 7, zf_ild 6, zf_ic (-1), zf_ic2 .eq 42, zf_ild 7, zf_ic (-1), zf_ic2 .ne 45], 42),
  (42, [zf_ic (-2), zf_reti], 45),
  (45, [zf_ald 0, zf_ild 1, zf_ild 2, zf_inv h 0 9 2, zf_if .eq 57, zf_ic (-4), zf_reti], 57),
  (57, [zf_ald 0, zf_ild 6, zf_inv h 0 20 1, zf_ist 8, zf_ald 0, zf_getR 0 10, zf_inv h 7 2 0, zf_if .eq 91, zf_ild 8, zf_ic (-1), zf_ic2 .ne 93, zf_ald 0, zf_getR 0 11, zf_inv h 7 2 0, zf_if .ne 93], 91),
  (91, [zf_ic (-1), zf_reti], 93),
  (93, [zf_ild 8, zf_ic (-1), zf_ic2 .ne 122, zf_ald 0, zf_getR 0 11, zf_ild 6, zf_ic 0, zf_ic 0, zf_ic 0, zf_ic 0, zf_inv h 7 0 5, zf_ist 8, zf_ald 0, zf_getR 0 13, zf_ild 8, zf_ic 0, zf_astI], 122),
  (122, [zf_ald 0, zf_getR 0 6, zf_ild 7, zf_aldB, zf_if .ne 158, zf_ald 0, zf_getR 0 9, zf_ild 7, zf_aldI 100, zf_ic (-1), zf_ic2 .ne 158, zf_ald 0, zf_ild 7, zf_ild 8, zf_inv h 0 11 2, zf_if .ne 158, zf_ic 1, zf_go 159], 158),
  (158, [zf_ic 0], 159),
  (159, [zf_ist 9, zf_ild 9, zf_if .eq 180, zf_ald 0, zf_getR 0 11, zf_ild 8, zf_ic 1, zf_inv h 7 1 2, zf_ic 5, zf_ic2 .lt 183], 180),
  (180, [zf_ic (-4), zf_reti], 183),
  (183, [zf_ald 0, zf_ild 8, zf_inv h 0 15 1, zf_ald 0, zf_getR 0 10, zf_ild 1, zf_ild 2, zf_ild 7, zf_ild 8, zf_ic 0, zf_inv h 7 0 5, zf_ist 10, zf_ald 0, zf_getR 0 11, zf_ild 8, zf_ic 1, zf_ald 0, zf_getR 0 11, zf_ild 8, zf_ic 1, zf_inv h 7 1 2, zf_ic 1, zf_add, zf_inv h 7 4 3, zf_ald 0, zf_getR 0 9, zf_ild 7, zf_ild 10, zf_astI, zf_ald 0, zf_getR 0 8, zf_ild 7, zf_ild 8, zf_astI, zf_ild 10, zf_reti], 248)]
theorem zT0_0 (h : Nat) : zTab h 0 0 11 (zt0_0 h) := zTab.mk (ret := (some .int)) (bl := xk0_0) (by decide +kernel) (by decide +kernel) rfl rfl
def zt0_1 (h : Nat) : ZB := [(0, [zf_ild 1, zf_if .lt 50, zf_ild 1, zf_ic 12, zf_ic2 .ge 50, zf_ald 0, zf_getR 0 13, zf_ild 1, zf_aldI 100, zf_ic 1024, zf_ic2 .ge 50, zf_ald 0, zf_getR 0 12, zf_ild 1, zf_ic 1024, zf_mul, zf_ald 0, zf_getR 0 13, zf_ild 1, zf_aldI 100, zf_add, zf_ild 2, zf_astI, zf_ald 0, zf_getR 0 13, zf_ild 1, zf_dup2, zf_aldI 100, zf_ic 1, zf_add, zf_astI], 50),
  (50, [zf_ret], 51)]
theorem zT0_1 (h : Nat) : zTab h 0 1 3 (zt0_1 h) := zTab.mk (ret := none) (bl := xk0_1) (by decide +kernel) (by decide +kernel) rfl rfl
def zt0_2 (h : Nat) : ZB := [(0, [zf_ald 0, zf_getI 0 0, zf_ic (-1), zf_ic2 .ne 11, zf_ic (-3), zf_reti], 11),
  (11, [zf_ald 0, zf_ild 1, zf_ild 2, zf_ild 3, zf_inv h 0 5 3, zf_ist 4, zf_ild 4, zf_ic (-1), zf_ic2 .ne 29, zf_ic (-2), zf_reti], 29),
  (29, [zf_ald 0, zf_getR 0 6, zf_ild 4, zf_aldB, zf_if .ne 50, zf_ald 0, zf_getR 0 8, zf_ild 4, zf_aldI 100, zf_ic (-1), zf_ic2 .eq 53], 50),
  (50, [zf_ic (-4), zf_reti], 53),
  (53, [zf_ald 0, zf_getR 0 6, zf_ild 4, zf_ic 1, zf_astB, zf_ic 0, zf_reti], 63)]
theorem zT0_2 (h : Nat) : zTab h 0 2 5 (zt0_2 h) := zTab.mk (ret := (some .int)) (bl := xk0_2) (by decide +kernel) (by decide +kernel) rfl rfl
def zt0_3 (h : Nat) : ZB := [(0, [zf_ald 0, zf_dup, zf_getI 0 0, zf_ic 1, zf_add, zf_putI 0 0, zf_ald 0, zf_ild 1, zf_putI 0 1, zf_ald 0, zf_ild 2, zf_putI 0 2, zf_ald 0, zf_ild 3, zf_putI 0 3, zf_ald 0, zf_lld 4, zf_putL 0 4, zf_ald 0, zf_getR 0 10, zf_ic 0, zf_putI 7 2, zf_ald 0, zf_getR 0 11, zf_ic 0, zf_putI 7 2, zf_ic 0, zf_ist 6], 50),
  (50, [zf_ild 6, zf_ic 1024, zf_ic2 .ge 96, zf_ald 0, zf_getR 0 6, zf_ild 6, zf_ic 0, zf_astB, zf_ald 0, zf_getR 0 7, zf_ild 6, zf_ic 0, zf_astI, zf_ald 0, zf_getR 0 8, zf_ild 6, zf_ic (-1), zf_astI, zf_ald 0, zf_getR 0 9, zf_ild 6, zf_ic (-1), zf_astI, zf_inc 6 1, zf_go 50], 96),
  (96, [zf_ic 0, zf_ist 6], 99),
  (99, [zf_ild 6, zf_ic 4, zf_ic2 .ge 120, zf_ald 0, zf_ild 6, zf_ic 0, zf_ic 0, zf_ic 0, zf_inv h 0 22 4, zf_inc 6 1, zf_go 99], 120),
  (120, [zf_ald 0, zf_inv h 0 8 0, zf_ret], 125)]
theorem zT0_3 (h : Nat) : zTab h 0 3 7 (zt0_3 h) := zTab.mk (ret := none) (bl := xk0_3) (by decide +kernel) (by decide +kernel) rfl rfl
def zt0_4 (h : Nat) : ZB := [(0, [zf_ild 1, zf_if .lt 15, zf_ild 1, zf_ald 0, zf_getR 0 11, zf_getI 7 2, zf_ic2 .lt 17], 15),
  (15, [zf_ic (-1), zf_reti], 17),
  (17, [zf_ic 0, zf_ist 3, zf_ic 0, zf_ist 4], 22),
  (22, [zf_ild 4, zf_ic 12, zf_ic2 .ge 63, zf_ald 0, zf_getR 0 11, zf_ild 1, zf_ic 5, zf_inv h 7 1 2, zf_ild 4, zf_bit zshr, zf_ic 1, zf_bit zand, zf_if .eq 57, zf_ild 3, zf_ild 2, zf_ic2 .ne 54, zf_ild 4, zf_reti], 54),
  (54, [zf_inc 3 1], 57),
  (57, [zf_inc 4 1, zf_go 22], 63),
  (63, [zf_ic (-1), zf_reti], 65)]
theorem zT0_4 (h : Nat) : zTab h 0 4 5 (zt0_4 h) := zTab.mk (ret := (some .int)) (bl := xk0_4) (by decide +kernel) (by decide +kernel) rfl rfl
def zt0_5 (h : Nat) : ZB := [(0, [zf_ild 1, zf_if .lt 40, zf_ild 1, zf_ald 0, zf_getI 0 3, zf_ic2 .ge 40, zf_ild 2, zf_if .lt 40, zf_ild 2, zf_ald 0, zf_getI 0 1, zf_ic2 .ge 40, zf_ild 3, zf_if .lt 40, zf_ild 3, zf_ald 0, zf_getI 0 2, zf_ic2 .ge 40, zf_ic 1, zf_go 41], 40),
  (40, [zf_ic 0], 41),
  (41, [zf_ist 4, zf_ild 4, zf_if .eq 66, zf_ild 1, zf_ald 0, zf_getI 0 2, zf_mul, zf_ild 3, zf_add, zf_ald 0, zf_getI 0 1, zf_mul, zf_ild 2, zf_add, zf_go 67], 66),
  (66, [zf_ic (-1)], 67),
  (67, [zf_reti], 68)]
theorem zT0_5 (h : Nat) : zTab h 0 5 5 (zt0_5 h) := zTab.mk (ret := (some .int)) (bl := xk0_5) (by decide +kernel) (by decide +kernel) rfl rfl
def zt0_6 (h : Nat) : ZB := [(0, [zf_ild 1, zf_ald 0, zf_getI 0 1, zf_rem, zf_reti], 7)]
theorem zT0_6 (h : Nat) : zTab h 0 6 2 (zt0_6 h) := zTab.mk (ret := (some .int)) (bl := xk0_6) (by decide +kernel) (by decide +kernel) rfl rfl
def zt0_7 (h : Nat) : ZB := [(0, [zf_ald 0, zf_getR 0 16, zf_ald 0, zf_ild 1, zf_inv h 0 14 1, zf_aldI 100, zf_ist 3, zf_ald 0, zf_getR 0 7, zf_ild 1, zf_aldI 100, zf_ist 4, zf_ic 1, zf_ist 5], 22),
  (22, [zf_ild 5, zf_ic 4, zf_ic2 .gt 69, zf_ild 3, zf_if .le 69, zf_ald 0, zf_ild 1, zf_ild 5, zf_inv h 0 16 2, zf_ist 6, zf_ild 6, zf_ic (-1), zf_ic2 .eq 63, zf_ald 0, zf_ild 6, zf_ild 2, zf_inv h 0 11 2, zf_if .eq 63, zf_ild 4, zf_ild 3, zf_add, zf_ist 4], 63),
  (63, [zf_inc 5 1, zf_go 22], 69),
  (69, [zf_ild 4, zf_reti], 72)]
theorem zT0_7 (h : Nat) : zTab h 0 7 7 (zt0_7 h) := zTab.mk (ret := (some .int)) (bl := xk0_7) (by decide +kernel) (by decide +kernel) rfl rfl
def zt0_8 (h : Nat) : ZB := [(0, [zf_ic 0, zf_ist 1], 2),
  (2, [zf_ild 1, zf_ald 0, zf_getI 0 1, zf_ald 0, zf_getI 0 2, zf_mul, zf_ald 0, zf_getI 0 3, zf_mul, zf_ic2 .ge 163, zf_ald 0, zf_ild 1, zf_inv h 0 14 1, zf_ist 2, zf_ald 0, zf_ild 1, zf_inv h 0 6 1, zf_ist 3, zf_ald 0, zf_ild 1, zf_inv h 0 21 1, zf_ist 4, zf_ild 1, zf_ic 6, zf_mul, zf_ist 5, zf_ald 0, zf_getR 0 5, zf_ild 5, zf_ald 0, zf_ild 2, zf_ic 1, zf_sub, zf_ild 3, zf_ild 4, zf_inv h 0 5 3, zf_astI, zf_ald 0, zf_getR 0 5, zf_ild 5, zf_ic 1, zf_add, zf_ald 0, zf_ild 2, zf_ild 3, zf_ild 4, zf_ic 1, zf_sub, zf_inv h 0 5 3, zf_astI, zf_ald 0, zf_getR 0 5, zf_ild 5, zf_ic 2, zf_add, zf_ald 0, zf_ild 2, zf_ild 3, zf_ic 1, zf_sub, zf_ild 4, zf_inv h 0 5 3, zf_astI, zf_ald 0, zf_getR 0 5, zf_ild 5, zf_ic 3, zf_add, zf_ald 0, zf_ild 2, zf_ild 3, zf_ic 1, zf_add, zf_ild 4, zf_inv h 0 5 3, zf_astI, zf_ald 0, zf_getR 0 5, zf_ild 5, zf_ic 4, zf_add, zf_ald 0, zf_ild 2, zf_ild 3, zf_ild 4, zf_ic 1, zf_add, zf_inv h 0 5 3, zf_astI, zf_ald 0, zf_getR 0 5, zf_ild 5, zf_ic 5, zf_add, zf_ald 0, zf_ild 2, zf_ic 1, zf_add, zf_ild 3, zf_ild 4, zf_inv h 0 5 3, zf_astI, zf_inc 1 1, zf_go 2], 163),
  (163, [zf_ret], 164)]
theorem zT0_8 (h : Nat) : zTab h 0 8 6 (zt0_8 h) := zTab.mk (ret := none) (bl := xk0_8) (by decide +kernel) (by decide +kernel) rfl rfl
def zt0_9 (h : Nat) : ZB := [(0, [zf_ic 0, zf_ist 3, zf_ic 0, zf_ist 4], 5),
  (5, [zf_ild 4, zf_ald 0, zf_getR 0 10, zf_getI 7 2, zf_ic2 .ge 61, zf_ild 3, zf_if .ne 61, zf_ald 0, zf_getR 0 10, zf_ild 4, zf_ic 0, zf_inv h 7 1 2, zf_ild 1, zf_ic2 .ne 53, zf_ald 0, zf_getR 0 10, zf_ild 4, zf_ic 1, zf_inv h 7 1 2, zf_ild 2, zf_ic2 .ne 53, zf_ic 1, zf_go 54], 53),
  (53, [zf_ic 0], 54),
  (54, [zf_ist 3, zf_inc 4 1, zf_go 5], 61),
  (61, [zf_ild 3, zf_retz], 63)]
theorem zT0_9 (h : Nat) : zTab h 0 9 5 (zt0_9 h) := zTab.mk (ret := (some .boolean)) (bl := xk0_9) (by decide +kernel) (by decide +kernel) rfl rfl
def zt0_11 (h : Nat) : ZB := [(0, [zf_ald 0, zf_getR 0 8, zf_ild 1, zf_aldI 100, zf_ic (-1), zf_ic2 .eq 24, zf_ald 0, zf_getR 0 8, zf_ild 1, zf_aldI 100, zf_ild 2, zf_ic2 .eq 24, zf_ic 1, zf_go 25], 24),
  (24, [zf_ic 0], 25),
  (25, [zf_retz], 26)]
theorem zT0_11 (h : Nat) : zTab h 0 11 3 (zt0_11 h) := zTab.mk (ret := (some .boolean)) (bl := xk0_11) (by decide +kernel) (by decide +kernel) rfl rfl
def zt0_12 (h : Nat) : ZB := [(0, [zf_ald 0, zf_getR 0 11, zf_ild 1, zf_ic 2, zf_inv h 7 1 2, zf_ic 1, zf_ic2 .ne 17, zf_ic 1, zf_go 18], 17),
  (17, [zf_ic 0], 18),
  (18, [zf_retz], 19)]
theorem zT0_12 (h : Nat) : zTab h 0 12 2 (zt0_12 h) := zTab.mk (ret := (some .boolean)) (bl := xk0_12) (by decide +kernel) (by decide +kernel) rfl rfl
def zt0_13 (h : Nat) : ZB := [(0, [zf_ald 0, zf_getR 0 11, zf_ild 1, zf_ic 1, zf_inv h 7 1 2, zf_if .le 24, zf_ald 0, zf_ild 1, zf_inv h 0 12 1, zf_if .ne 24, zf_ic 1, zf_go 25], 24),
  (24, [zf_ic 0], 25),
  (25, [zf_retz], 26)]
theorem zT0_13 (h : Nat) : zTab h 0 13 2 (zt0_13 h) := zTab.mk (ret := (some .boolean)) (bl := xk0_13) (by decide +kernel) (by decide +kernel) rfl rfl
def zt0_14 (h : Nat) : ZB := [(0, [zf_ild 1, zf_ald 0, zf_getI 0 1, zf_div, zf_ald 0, zf_getI 0 2, zf_div, zf_reti], 12)]
theorem zT0_14 (h : Nat) : zTab h 0 14 2 (zt0_14 h) := zTab.mk (ret := (some .int)) (bl := xk0_14) (by decide +kernel) (by decide +kernel) rfl rfl
def zt0_15 (h : Nat) : ZB := [(0, [zf_ild 1, zf_if .lt 15, zf_ild 1, zf_ald 0, zf_getR 0 11, zf_getI 7 2, zf_ic2 .lt 16], 15),
  (15, [zf_ret], 16),
  (16, [zf_ic 0, zf_ist 2], 18),
  (18, [zf_ild 2, zf_ald 0, zf_getR 0 13, zf_ild 1, zf_aldI 100, zf_ic2 .ge 64, zf_ald 0, zf_getR 0 12, zf_ild 1, zf_ic 1024, zf_mul, zf_ild 2, zf_add, zf_aldI 100, zf_ist 3, zf_ald 0, zf_getR 0 9, zf_ild 3, zf_aldI 100, zf_ic (-1), zf_ic2 .ne 58, zf_ald 0, zf_getR 0 8, zf_ild 3, zf_ic (-1), zf_astI], 58),
  (58, [zf_inc 2 1, zf_go 18], 64),
  (64, [zf_ald 0, zf_getR 0 13, zf_ild 1, zf_ic 0, zf_astI, zf_ald 0, zf_getR 0 11, zf_ild 1, zf_ic 2, zf_ic 0, zf_inv h 7 4 3, zf_ret], 82)]
theorem zT0_15 (h : Nat) : zTab h 0 15 4 (zt0_15 h) := zTab.mk (ret := none) (bl := xk0_15) (by decide +kernel) (by decide +kernel) rfl rfl
def zt0_16 (h : Nat) : ZB := [(0, [zf_ald 0, zf_getR 0 5, zf_ild 1, zf_ic 6, zf_mul, zf_ild 2, zf_add, zf_aldI 100, zf_reti], 12)]
theorem zT0_16 (h : Nat) : zTab h 0 16 3 (zt0_16 h) := zTab.mk (ret := (some .int)) (bl := xk0_16) (by decide +kernel) (by decide +kernel) rfl rfl
def zt0_17 (h : Nat) : ZB := [(0, [zf_ic 0, zf_ist 1, zf_ic 0, zf_ist 2], 4),
  (4, [zf_ild 2, zf_ald 0, zf_getR 0 11, zf_getI 7 2, zf_ic2 .ge 32, zf_ald 0, zf_ild 2, zf_inv h 0 13 1, zf_if .eq 26, zf_inc 1 1], 26),
  (26, [zf_inc 2 1, zf_go 4], 32),
  (32, [zf_ild 1, zf_reti], 34)]
theorem zT0_17 (h : Nat) : zTab h 0 17 3 (zt0_17 h) := zTab.mk (ret := (some .int)) (bl := xk0_17) (by decide +kernel) (by decide +kernel) rfl rfl
def zt0_18 (h : Nat) : ZB := [(0, [zf_ald 0, zf_getR 0 10, zf_ild 1, zf_ic 2, zf_inv h 7 1 2, zf_reti], 10)]
theorem zT0_18 (h : Nat) : zTab h 0 18 2 (zt0_18 h) := zTab.mk (ret := (some .int)) (bl := xk0_18) (by decide +kernel) (by decide +kernel) rfl rfl
def zt0_19 (h : Nat) : ZB := [(0, [zf_ald 0, zf_getR 0 10, zf_ild 1, zf_ic 3, zf_inv h 7 1 2, zf_reti], 10)]
theorem zT0_19 (h : Nat) : zTab h 0 19 2 (zt0_19 h) := zTab.mk (ret := (some .int)) (bl := xk0_19) (by decide +kernel) (by decide +kernel) rfl rfl
def zt0_20 (h : Nat) : ZB := [(0, [zf_ic 0, zf_ist 2], 2),
  (2, [zf_ild 2, zf_ald 0, zf_getR 0 11, zf_getI 7 2, zf_ic2 .ge 34, zf_ald 0, zf_getR 0 11, zf_ild 2, zf_ic 0, zf_inv h 7 1 2, zf_ild 1, zf_ic2 .ne 28, zf_ild 2, zf_reti], 28),
  (28, [zf_inc 2 1, zf_go 2], 34),
  (34, [zf_ic (-1), zf_reti], 36)]
theorem zT0_20 (h : Nat) : zTab h 0 20 3 (zt0_20 h) := zTab.mk (ret := (some .int)) (bl := xk0_20) (by decide +kernel) (by decide +kernel) rfl rfl
def zt0_21 (h : Nat) : ZB := [(0, [zf_ild 1, zf_ald 0, zf_getI 0 1, zf_div, zf_ald 0, zf_getI 0 2, zf_rem, zf_reti], 12)]
theorem zT0_21 (h : Nat) : zTab h 0 21 2 (zt0_21 h) := zTab.mk (ret := (some .int)) (bl := xk0_21) (by decide +kernel) (by decide +kernel) rfl rfl
def zt0_22 (h : Nat) : ZB := [(0, [zf_ald 0, zf_getR 0 14, zf_ild 1, zf_ild 2, zf_astI, zf_ald 0, zf_getR 0 15, zf_ild 1, zf_ild 3, zf_astI, zf_ald 0, zf_getR 0 16, zf_ild 1, zf_ild 4, zf_astI, zf_ret], 23)]
theorem zT0_22 (h : Nat) : zTab h 0 22 5 (zt0_22 h) := zTab.mk (ret := none) (bl := xk0_22) (by decide +kernel) (by decide +kernel) rfl rfl
def zt0_23 (h : Nat) : ZB := [(0, [zf_ild 1, zf_if .lt 24, zf_ild 1, zf_ic 60, zf_ic2 .ge 24, zf_ild 2, zf_if .lt 24, zf_ild 2, zf_ic 16, zf_ic2 .ge 24, zf_ic 1, zf_go 25], 24),
  (24, [zf_ic 0], 25),
  (25, [zf_ist 3, zf_ild 3, zf_if .eq 44, zf_ald 0, zf_getR 0 17, zf_ild 1, zf_ic 16, zf_mul, zf_ild 2, zf_add, zf_aldI 100, zf_go 45], 44),
  (44, [zf_ic (-1)], 45),
  (45, [zf_reti], 46)]
theorem zT0_23 (h : Nat) : zTab h 0 23 4 (zt0_23 h) := zTab.mk (ret := (some .int)) (bl := xk0_23) (by decide +kernel) (by decide +kernel) rfl rfl
def zt0_24 (h : Nat) : ZB := [(0, [zf_ald 0, zf_ild 1, zf_inv h 0 14 1, zf_ist 3, zf_ild 2, zf_if .ne 29, zf_ic 2, zf_ild 3, zf_if .le 26, zf_ald 0, zf_getR 0 15, zf_ild 3, zf_ic 1, zf_sub, zf_aldI 100, zf_go 27], 26),
  (26, [zf_ic 0], 27),
  (27, [zf_add, zf_reti], 29),
  (29, [zf_ild 2, zf_ic 5, zf_ic2 .ne 43, zf_ic 2, zf_ald 0, zf_getR 0 15, zf_ild 3, zf_aldI 100, zf_add, zf_reti], 43),
  (43, [zf_ild 2, zf_ic 1, zf_ic2 .eq 53, zf_ild 2, zf_ic 4, zf_ic2 .ne 57], 53),
  (53, [zf_ic 1, zf_go 58], 57),
  (57, [zf_ic 0], 58),
  (58, [zf_ist 4, zf_ild 3, zf_ic 2, zf_rem, zf_if .ne 70, zf_ic 1, zf_go 71], 70),
  (70, [zf_ic 0], 71),
  (71, [zf_ist 5, zf_ild 4, zf_ild 5, zf_ic2 .ne 91, zf_ic 2, zf_ald 0, zf_getR 0 14, zf_ild 3, zf_aldI 100, zf_add, zf_go 92], 91),
  (91, [zf_ic 2], 92),
  (92, [zf_reti], 93)]
theorem zT0_24 (h : Nat) : zTab h 0 24 6 (zt0_24 h) := zTab.mk (ret := (some .int)) (bl := xk0_24) (by decide +kernel) (by decide +kernel) rfl rfl
def zt0_25 (h : Nat) : ZB := [(0, [zf_ic 0, zf_ist 2], 2),
  (2, [zf_ild 2, zf_ic 960, zf_ic2 .ge 33, zf_ald 0, zf_getR 0 17, zf_ild 2, zf_ald 1, zf_ild 2, zf_ic 16, zf_div, zf_ild 2, zf_ic 16, zf_rem, zf_inv h 3 31 2, zf_astI, zf_inc 2 1, zf_go 2], 33),
  (33, [zf_ret], 34)]
theorem zT0_25 (h : Nat) : zTab h 0 25 3 (zt0_25 h) := zTab.mk (ret := none) (bl := xk0_25) (by decide +kernel) (by decide +kernel) rfl rfl
def zt0_26 (h : Nat) : ZB := [(0, [zf_ild 2, zf_if .lt 28, zf_ild 2, zf_ald 0, zf_ild 1, zf_inv h 0 27 1, zf_ic2 .ge 28, zf_ald 0, zf_getR 0 12, zf_ild 1, zf_ic 1024, zf_mul, zf_ild 2, zf_add, zf_aldI 100, zf_go 29], 28),
  (28, [zf_ic (-1)], 29),
  (29, [zf_reti], 30)]
theorem zT0_26 (h : Nat) : zTab h 0 26 3 (zt0_26 h) := zTab.mk (ret := (some .int)) (bl := xk0_26) (by decide +kernel) (by decide +kernel) rfl rfl
def zt0_27 (h : Nat) : ZB := [(0, [zf_ild 1, zf_if .lt 24, zf_ild 1, zf_ald 0, zf_getR 0 11, zf_getI 7 2, zf_ic2 .ge 24, zf_ald 0, zf_getR 0 13, zf_ild 1, zf_aldI 100, zf_go 25], 24),
  (24, [zf_ic 0], 25),
  (25, [zf_reti], 26)]
theorem zT0_27 (h : Nat) : zTab h 0 27 2 (zt0_27 h) := zTab.mk (ret := (some .int)) (bl := xk0_27) (by decide +kernel) (by decide +kernel) rfl rfl
def zt0_28 (h : Nat) : ZB := [(0, [zf_ald 0, zf_ild 1, zf_inv h 0 12 1, zf_if .eq 17, zf_ald 0, zf_ild 1, zf_ild 2, zf_inv h 0 26 2, zf_go 18], 17),
  (17, [zf_ic (-1)], 18),
  (18, [zf_ist 4, zf_ild 4, zf_ic (-1), zf_ic2 .ne 28, zf_ic (-1), zf_reti], 28),
  (28, [zf_ild 3, zf_sw 77 0 2 [56, 63, 70]], 56),
  (56, [zf_ald 0, zf_ild 4, zf_inv h 0 14 1, zf_reti], 63),
  (63, [zf_ald 0, zf_ild 4, zf_inv h 0 6 1, zf_reti], 70),
  (70, [zf_ald 0, zf_ild 4, zf_inv h 0 21 1, zf_reti], 77),
  (77, [zf_ic (-1), zf_reti], 79)]
theorem zT0_28 (h : Nat) : zTab h 0 28 5 (zt0_28 h) := zTab.mk (ret := (some .int)) (bl := xk0_28) (by decide +kernel) (by decide +kernel) rfl rfl
def zt1_0 (h : Nat) : ZB := [(0, [zf_ald 0, zf_getR 1 1, zf_ild 2, zf_ic 3, zf_inv h 7 1 2, zf_ist 4, zf_ald 0, zf_ild 2, zf_inv h 1 36 1, zf_ic 16, zf_mul, zf_ild 4, zf_ic 16, zf_rem, zf_add, zf_ic 16, zf_mul, zf_ild 4, zf_ic 16, zf_div, zf_add, zf_ist 5, zf_ild 5, zf_ic 5, zf_mul, zf_ild 1, zf_add, zf_ic 60, zf_mul, zf_ild 2, zf_add, zf_ist 5, zf_ald 0, zf_getI 1 11, zf_ic 1950, zf_ic2 .ge 87, zf_ald 0, zf_getR 1 10, zf_ald 0, zf_getI 1 11, zf_ild 5, zf_ic 61, zf_mul, zf_ild 3, zf_add, zf_ic 1, zf_add, zf_astI, zf_ald 0, zf_dup, zf_getI 1 11, zf_ic 1, zf_add, zf_putI 1 11], 87),
  (87, [zf_ret], 88)]
theorem zT1_0 (h : Nat) : zTab h 1 0 6 (zt1_0 h) := zTab.mk (ret := none) (bl := xk1_0) (by decide +kernel) (by decide +kernel) rfl rfl
def zt1_1 (h : Nat) : ZB := [(0, [zf_ic 0, zf_ist 3], 2),
  (2, [zf_ild 3, zf_ic 1, zf_add, zf_ald 1, zf_getI 0 3, zf_ic2 .ge 134, zf_ic 0, zf_ist 4], 15),
  (15, [zf_ild 4, zf_ald 1, zf_getI 0 2, zf_ic2 .ge 128, zf_ic 0, zf_ist 5], 27),
  (27, [zf_ild 5, zf_ald 1, zf_getI 0 1, zf_ic2 .ge 122, zf_ald 0, zf_getI 1 2, zf_if .ne 122, zf_ald 1, zf_ild 2, zf_ild 3, zf_ild 5, zf_ild 4, zf_inst h 1 24 5, zf_if .eq 116, zf_ald 1, zf_ild 2, zf_ild 3, zf_ic 1, zf_add, zf_ild 5, zf_ild 4, zf_inst h 1 24 5, zf_if .eq 116, zf_ic 16, zf_ild 4, zf_mul, zf_ild 5, zf_add, zf_ist 6, zf_ald 0, zf_ic 2, zf_ild 2, zf_ild 3, zf_ild 6, zf_ild 6, zf_inv h 1 4 5, zf_ald 0, zf_ic 2, zf_ild 2, zf_ild 3, zf_ic 1, zf_add, zf_ild 6, zf_ild 6, zf_inv h 1 4 5, zf_ald 0, zf_ic 3, zf_ild 2, zf_ild 3, zf_ild 6, zf_ild 6, zf_inv h 1 4 5], 116),
  (116, [zf_inc 5 1, zf_go 27], 122),
  (122, [zf_inc 4 1, zf_go 15], 128),
  (128, [zf_inc 3 1, zf_go 2], 134),
  (134, [zf_ret], 135)]
theorem zT1_1 (h : Nat) : zTab h 1 1 7 (zt1_1 h) := zTab.mk (ret := none) (bl := xk1_1) (by decide +kernel) (by decide +kernel) rfl rfl
def zt1_2 (h : Nat) : ZB := [(0, [zf_ild 3, zf_if .eq 11, zf_ald 1, zf_getI 0 2, zf_go 15], 11),
  (11, [zf_ald 1, zf_getI 0 1], 15),
  (15, [zf_ist 4, zf_ic 0, zf_ist 5], 20),
  (20, [zf_ild 5, zf_ald 1, zf_getI 0 3, zf_ic2 .ge 69, zf_ic 0, zf_ist 6], 32),
  (32, [zf_ild 6, zf_ild 4, zf_ic2 .ge 63, zf_ald 0, zf_getI 1 2, zf_if .ne 63, zf_ald 0, zf_ald 1, zf_ild 2, zf_ild 5, zf_ild 6, zf_ild 3, zf_inv h 1 3 5, zf_inc 6 1, zf_go 32], 63),
  (63, [zf_inc 5 1, zf_go 20], 69),
  (69, [zf_ret], 70)]
theorem zT1_2 (h : Nat) : zTab h 1 2 7 (zt1_2 h) := zTab.mk (ret := none) (bl := xk1_2) (by decide +kernel) (by decide +kernel) rfl rfl
def zt1_3 (h : Nat) : ZB := [(0, [zf_ild 5, zf_if .eq 12, zf_ald 1, zf_getI 0 1, zf_go 16], 12),
  (12, [zf_ald 1, zf_getI 0 2], 16),
  (16, [zf_ist 6, zf_ic (-1), zf_ist 7, zf_ic (-1), zf_ist 8, zf_ic 0, zf_ist 9, zf_ic 0, zf_ist 10], 30),
  (30, [zf_ild 10, zf_ild 6, zf_ic2 .gt 136, zf_ild 5, zf_if .eq 54, zf_ald 1, zf_ild 3, zf_ild 10, zf_ild 4, zf_inv h 0 5 3, zf_go 63], 54),
  (54, [zf_ald 1, zf_ild 3, zf_ild 4, zf_ild 10, zf_inv h 0 5 3], 63),
  (63, [zf_ist 11, zf_ild 11, zf_ic (-1), zf_ic2 .eq 110, zf_ald 1, zf_getR 0 8, zf_ild 11, zf_aldI 100, zf_ild 2, zf_ic2 .ne 110, zf_ald 1, zf_ild 11, zf_inst h 1 45 2, zf_ist 8, zf_ild 9, zf_if .ne 100, zf_ild 8, zf_go 102], 100),
  (100, [zf_ild 7], 102),
  (102, [zf_ist 7, zf_inc 9 1, zf_go 130], 110),
  (110, [zf_ild 9, zf_ic 1, zf_ic2 .le 127, zf_ald 0, zf_ic 0, zf_ild 2, zf_ild 3, zf_ild 7, zf_ild 8, zf_inv h 1 4 5], 127),
  (127, [zf_ic 0, zf_ist 9], 130),
  (130, [zf_inc 10 1, zf_go 30], 136),
  (136, [zf_ret], 137)]
theorem zT1_3 (h : Nat) : zTab h 1 3 12 (zt1_3 h) := zTab.mk (ret := none) (bl := xk1_3) (by decide +kernel) (by decide +kernel) rfl rfl
def zt1_4 (h : Nat) : ZB := [(0, [zf_ald 0, zf_getR 1 1, zf_ild 1, zf_ild 2, zf_ild 3, zf_ild 4, zf_ild 5, zf_inv h 7 0 5, zf_ic (-1), zf_ic2 .ne 23, zf_ald 0, zf_ic 1, zf_putZ 1 2], 23),
  (23, [zf_ret], 24)]
theorem zT1_4 (h : Nat) : zTab h 1 4 6 (zt1_4 h) := zTab.mk (ret := none) (bl := xk1_4) (by decide +kernel) (by decide +kernel) rfl rfl
def zt1_5 (h : Nat) : ZB := [(0, [zf_ic 0, zf_ist 2, zf_ic 0, zf_ist 3], 4),
  (4, [zf_ild 3, zf_ald 0, zf_getR 1 8, zf_getI 7 2, zf_ic2 .ge 37, zf_ald 0, zf_getR 1 8, zf_ild 3, zf_ic 0, zf_inv h 7 1 2, zf_ild 1, zf_ic2 .ne 31, zf_inc 2 1], 31),
  (31, [zf_inc 3 1, zf_go 4], 37),
  (37, [zf_ild 2, zf_reti], 39)]
theorem zT1_5 (h : Nat) : zTab h 1 5 4 (zt1_5 h) := zTab.mk (ret := (some .int)) (bl := xk1_5) (by decide +kernel) (by decide +kernel) rfl rfl
def zt1_6 (h : Nat) : ZB := [(0, [zf_ild 2, zf_ist 4, zf_ic 0, zf_ist 5], 6),
  (6, [zf_ild 5, zf_ald 0, zf_getR 1 8, zf_getI 7 2, zf_ic2 .ge 76, zf_ild 2, zf_if .lt 76, zf_ald 0, zf_getR 1 8, zf_ild 5, zf_ic 0, zf_inv h 7 1 2, zf_ild 1, zf_ic2 .ne 70, zf_ild 4, zf_if .ne 67, zf_ild 3, zf_if .eq 50, zf_ild 3, zf_ic 1, zf_ic2 .ne 65], 50),
  (50, [zf_ald 0, zf_getR 1 8, zf_ild 5, zf_ic 1, zf_ild 3, zf_add, zf_inv h 7 1 2, zf_go 66], 65),
  (65, [zf_ic (-1)], 66),
  (66, [zf_reti], 67),
  (67, [zf_inc 4 (-1)], 70),
  (70, [zf_inc 5 1, zf_go 6], 76),
  (76, [zf_ic (-1), zf_reti], 78)]
theorem zT1_6 (h : Nat) : zTab h 1 6 6 (zt1_6 h) := zTab.mk (ret := (some .int)) (bl := xk1_6) (by decide +kernel) (by decide +kernel) rfl rfl
def zt1_7 (h : Nat) : ZB := [(0, [zf_ald 0, zf_getR 1 1, zf_ild 1, zf_ic 0, zf_inv h 7 1 2, zf_reti], 10)]
theorem zT1_7 (h : Nat) : zTab h 1 7 2 (zt1_7 h) := zTab.mk (ret := (some .int)) (bl := xk1_7) (by decide +kernel) (by decide +kernel) rfl rfl
def zt1_8 (h : Nat) : ZB := [(0, [zf_ild 1, zf_if .lt 21, zf_ild 1, zf_ald 0, zf_getI 1 6, zf_ic2 .ge 21, zf_ald 0, zf_getR 1 7, zf_ild 1, zf_aldI 100, zf_go 22], 21),
  (21, [zf_ic (-1)], 22),
  (22, [zf_reti], 23)]
theorem zT1_8 (h : Nat) : zTab h 1 8 2 (zt1_8 h) := zTab.mk (ret := (some .int)) (bl := xk1_8) (by decide +kernel) (by decide +kernel) rfl rfl
def zt1_9 (h : Nat) : ZB := [(0, [zf_ic 0, zf_ist 2, zf_ic 0, zf_ist 3], 4),
  (4, [zf_ild 3, zf_ald 0, zf_getI 1 13, zf_ic2 .ge 35, zf_ild 2, zf_ald 0, zf_ild 3, zf_ild 1, zf_inv h 1 32 2, zf_if .eq 26, zf_ic 1, zf_go 27], 26),
  (26, [zf_ic 0], 27),
  (27, [zf_add, zf_ist 2, zf_inc 3 1, zf_go 4], 35),
  (35, [zf_ild 2, zf_reti], 37)]
theorem zT1_9 (h : Nat) : zTab h 1 9 4 (zt1_9 h) := zTab.mk (ret := (some .int)) (bl := xk1_9) (by decide +kernel) (by decide +kernel) rfl rfl
def zt1_10 (h : Nat) : ZB := [(0, [zf_ald 0, zf_ic 0, zf_putI 1 9, zf_ic 0, zf_ist 1], 7),
  (7, [zf_ild 1, zf_ald 0, zf_getI 1 6, zf_ic2 .ge 100, zf_ic (-1), zf_ist 2, zf_ic 0, zf_ist 3, zf_ic 0, zf_ist 4], 22),
  (22, [zf_ild 4, zf_ald 0, zf_getI 1 4, zf_ic2 .ge 80, zf_ald 0, zf_getR 1 7, zf_ild 4, zf_aldI 100, zf_ild 1, zf_ic2 .ne 74, zf_ild 3, zf_if .ne 61, zf_ild 2, zf_ic (-1), zf_ic2 .eq 65, zf_ild 2, zf_ald 0, zf_ild 4, zf_inv h 1 39 1, zf_ic2 .eq 65], 61),
  (61, [zf_ic 1, zf_go 66], 65),
  (65, [zf_ic 0], 66),
  (66, [zf_ist 3, zf_ald 0, zf_ild 4, zf_inv h 1 39 1, zf_ist 2], 74),
  (74, [zf_inc 4 1, zf_go 22], 80),
  (80, [zf_ild 3, zf_if .eq 94, zf_ald 0, zf_dup, zf_getI 1 9, zf_ic 1, zf_add, zf_putI 1 9], 94),
  (94, [zf_inc 1 1, zf_go 7], 100),
  (100, [zf_ret], 101)]
theorem zT1_10 (h : Nat) : zTab h 1 10 5 (zt1_10 h) := zTab.mk (ret := none) (bl := xk1_10) (by decide +kernel) (by decide +kernel) rfl rfl
def zt1_11 (h : Nat) : ZB := [(0, [zf_ild 1, zf_if .lt 14, zf_ild 1, zf_ic 7, zf_ic2 .ge 14, zf_ild 2, zf_if .ge 16], 14),
  (14, [zf_ic (-1), zf_reti], 16),
  (16, [zf_ald 0, zf_ild 1, zf_inv h 1 56 1, zf_ild 2, zf_ald 0, zf_getI 1 17, zf_ic2 .ge 38, zf_ald 0, zf_getR 1 16, zf_ild 2, zf_aldI 104, zf_go 39], 38),
  (38, [zf_ic (-1)], 39),
  (39, [zf_reti], 40)]
theorem zT1_11 (h : Nat) : zTab h 1 11 3 (zt1_11 h) := zTab.mk (ret := (some .int)) (bl := xk1_11) (by decide +kernel) (by decide +kernel) rfl rfl
def zt1_12 (h : Nat) : ZB := [(0, [zf_ald 0, zf_getR 1 1, zf_ild 1, zf_ild 3, zf_if .eq 13, zf_ic 4, zf_go 14], 13),
  (13, [zf_ic 3], 14),
  (14, [zf_inv h 7 1 2, zf_ist 4, zf_ic 1000, zf_ild 2, zf_if .eq 34, zf_ild 4, zf_ic 16, zf_rem, zf_go 39], 34),
  (34, [zf_ild 4, zf_ic 16, zf_div], 39),
  (39, [zf_mul, zf_reti], 41)]
theorem zT1_12 (h : Nat) : zTab h 1 12 5 (zt1_12 h) := zTab.mk (ret := (some .int)) (bl := xk1_12) (by decide +kernel) (by decide +kernel) rfl rfl
def zt1_13 (h : Nat) : ZB := [(0, [zf_ic 0, zf_ist 2, zf_ic 10000, zf_ist 3], 6),
  (6, [zf_ild 3, zf_if .le 81, zf_ald 0, zf_getI 1 17, zf_ic 800, zf_ic2 .ge 81, zf_ild 2, zf_if .ne 34, zf_ild 1, zf_ild 3, zf_ic2 .ge 34, zf_ild 3, zf_ic 1, zf_ic2 .ne 38], 34),
  (34, [zf_ic 1, zf_go 39], 38),
  (38, [zf_ic 0], 39),
  (39, [zf_ist 2, zf_ild 2, zf_if .eq 73, zf_ald 0, zf_getR 1 16, zf_ald 0, zf_getI 1 17, zf_ic 48, zf_ild 1, zf_ild 3, zf_div, zf_ic 10, zf_rem, zf_add, zf_cv zi2c, zf_astC, zf_ald 0, zf_dup, zf_getI 1 17, zf_ic 1, zf_add, zf_putI 1 17], 73),
  (73, [zf_ild 3, zf_ic 10, zf_div, zf_ist 3, zf_go 6], 81),
  (81, [zf_ret], 82)]
theorem zT1_13 (h : Nat) : zTab h 1 13 4 (zt1_13 h) := zTab.mk (ret := none) (bl := xk1_13) (by decide +kernel) (by decide +kernel) rfl rfl
def zt1_14 (h : Nat) : ZB := [(0, [zf_ic 0, zf_ist 2], 2),
  (2, [zf_ild 2, zf_ald 1, zf_slen, zf_ic2 .ge 50, zf_ald 0, zf_getI 1 17, zf_ic 800, zf_ic2 .ge 50, zf_ald 0, zf_getR 1 16, zf_ald 0, zf_getI 1 17, zf_ald 1, zf_ild 2, zf_schar, zf_astC, zf_ald 0, zf_dup, zf_getI 1 17, zf_ic 1, zf_add, zf_putI 1 17, zf_inc 2 1, zf_go 2], 50),
  (50, [zf_ret], 51)]
theorem zT1_14 (h : Nat) : zTab h 1 14 3 (zt1_14 h) := zTab.mk (ret := none) (bl := xk1_14) (by decide +kernel) (by decide +kernel) rfl rfl
def zt1_15 (h : Nat) : ZB := [(0, [zf_ald 0, zf_ild 1, zf_ic 1, zf_ild 2, zf_inv h 1 12 3, zf_ist 3, zf_ald 0, zf_ild 1, zf_ic 0, zf_ild 2, zf_inv h 1 12 3, zf_ist 4, zf_ic 0, zf_ist 5, zf_ic 0, zf_ist 6], 23),
  (23, [zf_ild 6, zf_ald 0, zf_getR 1 1, zf_getI 7 2, zf_ic2 .ge 187, zf_ild 5, zf_if .ne 187, zf_ild 6, zf_ild 1, zf_ic2 .eq 87, zf_ald 0, zf_ild 6, zf_inv h 1 28 1, zf_if .eq 87, zf_ald 0, zf_ild 6, zf_inv h 1 39 1, zf_ald 0, zf_ild 1, zf_inv h 1 39 1, zf_ic2 .ne 87, zf_ald 0, zf_ild 6, zf_inv h 1 36 1, zf_ald 0, zf_ild 1, zf_inv h 1 36 1, zf_ic2 .ne 87, zf_ic 1, zf_go 88], 87),
  (87, [zf_ic 0], 88),
  (88, [zf_ist 7, zf_ild 3, zf_ild 3, zf_ald 0, zf_ild 6, zf_ic 1, zf_ic 0, zf_inv h 1 12 3, zf_ald 0, zf_ild 6, zf_ic 1, zf_ic 1, zf_inv h 1 12 3, zf_ic 0, zf_inst h 1 22 5, zf_lst 8, zf_ild 4, zf_ild 4, zf_ald 0, zf_ild 6, zf_ic 0, zf_ic 0, zf_inv h 1 12 3, zf_ald 0, zf_ild 6, zf_ic 0, zf_ic 1, zf_inv h 1 12 3, zf_ic 0, zf_inst h 1 22 5, zf_lst 10, zf_ald 0, zf_ild 6, zf_inv h 1 46 1, zf_i2l, zf_lst 12, zf_ild 7, zf_if .eq 178, zf_lld 8, zf_lld 8, zf_lmul, zf_lld 10, zf_lld 10, zf_lmul, zf_ladd, zf_lld 12, zf_lld 12, zf_lmul, zf_lcmp, zf_if .gt 178, zf_ic 1, zf_go 179], 178),
  (178, [zf_ic 0], 179),
  (179, [zf_ist 5, zf_inc 6 1, zf_go 23], 187),
  (187, [zf_ild 5, zf_retz], 190)]
theorem zT1_15 (h : Nat) : zTab h 1 15 14 (zt1_15 h) := zTab.mk (ret := (some .boolean)) (bl := xk1_15) (by decide +kernel) (by decide +kernel) rfl rfl
def zt1_16 (h : Nat) : ZB := [(0, [zf_ild 1, zf_if .lt 12, zf_ild 1, zf_ald 0, zf_getI 1 11, zf_ic2 .lt 14], 12),
  (12, [zf_ic (-1), zf_reti], 14),
  (14, [zf_ald 0, zf_getR 1 10, zf_ild 1, zf_aldI 100, zf_ic 61, zf_rem, zf_ic 1, zf_sub, zf_ist 3, zf_ald 0, zf_getR 1 10, zf_ild 1, zf_aldI 100, zf_ic 61, zf_div, zf_ist 4, zf_ild 2, zf_sw 80 0 2 [64, 72, 78]], 64),
  (64, [zf_ild 4, zf_ic 60, zf_div, zf_ic 5, zf_rem, zf_reti], 72),
  (72, [zf_ild 4, zf_ic 60, zf_rem, zf_reti], 78),
  (78, [zf_ild 3, zf_reti], 80),
  (80, [zf_ic (-1), zf_reti], 82)]
theorem zT1_16 (h : Nat) : zTab h 1 16 5 (zt1_16 h) := zTab.mk (ret := (some .int)) (bl := xk1_16) (by decide +kernel) (by decide +kernel) rfl rfl
def zt1_17 (h : Nat) : ZB := [(0, [zf_ald 0, zf_getR 1 8, zf_ic 0, zf_putI 7 2, zf_ic 0, zf_ist 1], 10),
  (10, [zf_ild 1, zf_ic 12, zf_ic2 .ge 128, zf_ic 0, zf_ist 2], 18),
  (18, [zf_ild 2, zf_ald 0, zf_getI 1 4, zf_ic2 .ge 44, zf_ald 0, zf_getR 1 14, zf_ild 2, zf_ald 0, zf_getR 1 7, zf_ild 2, zf_aldI 100, zf_astI, zf_inc 2 1, zf_go 18], 44),
  (44, [zf_ald 0, zf_ild 1, zf_inv h 1 38 1, zf_ist 2, zf_ic 0, zf_ist 3], 52),
  (52, [zf_ild 3, zf_ald 0, zf_getI 1 4, zf_ic2 .ge 122, zf_ild 2, zf_ic (-1), zf_ic2 .eq 122, zf_ild 2, zf_ic 60, zf_div, zf_ist 4, zf_ild 2, zf_ic 60, zf_rem, zf_ist 5, zf_ald 0, zf_getR 1 8, zf_ild 1, zf_ild 4, zf_ild 5, zf_ic 0, zf_ic 0, zf_inv h 7 0 5, zf_pop, zf_ald 0, zf_ald 0, zf_getR 1 14, zf_ild 4, zf_aldI 100, zf_ald 0, zf_getR 1 14, zf_ild 5, zf_aldI 100, zf_inv h 1 35 2, zf_ald 0, zf_ild 1, zf_inv h 1 38 1, zf_ist 2, zf_inc 3 1, zf_go 52], 122),
  (122, [zf_inc 1 1, zf_go 10], 128),
  (128, [zf_ret], 129)]
theorem zT1_17 (h : Nat) : zTab h 1 17 6 (zt1_17 h) := zTab.mk (ret := none) (bl := xk1_17) (by decide +kernel) (by decide +kernel) rfl rfl
def zt1_18 (h : Nat) : ZB := [(0, [zf_ald 0, zf_ic 0, zf_putI 1 11, zf_ic 0, zf_ist 2], 7),
  (7, [zf_ild 2, zf_ald 0, zf_getR 1 1, zf_getI 7 2, zf_ic2 .ge 58, zf_ald 0, zf_ild 2, zf_ald 1, zf_inv h 1 19 2, zf_ild 2, zf_ic 1, zf_add, zf_ist 3], 28),
  (28, [zf_ild 3, zf_ald 0, zf_getR 1 1, zf_getI 7 2, zf_ic2 .ge 52, zf_ald 0, zf_ild 2, zf_ild 3, zf_ald 1, zf_inv h 1 20 3, zf_inc 3 1, zf_go 28], 52),
  (52, [zf_inc 2 1, zf_go 7], 58),
  (58, [zf_ald 0, zf_getR 1 10, zf_ald 0, zf_getI 1 11, zf_inst h 11 49 2, zf_ret], 70)]
theorem zT1_18 (h : Nat) : zTab h 1 18 4 (zt1_18 h) := zTab.mk (ret := none) (bl := xk1_18) (by decide +kernel) (by decide +kernel) rfl rfl
def zt1_19 (h : Nat) : ZB := [(0, [zf_ald 0, zf_ild 1, zf_inv h 1 7 1, zf_ist 3, zf_ald 2, zf_ic 1, zf_ild 3, zf_ic (-1), zf_inst h 1 54 4, zf_ist 4, zf_ald 0, zf_ild 1, zf_inv h 1 28 1, zf_if .eq 48, zf_ild 4, zf_ic (-1), zf_ic2 .eq 48, zf_ic 2, zf_ald 0, zf_ild 1, zf_inv h 1 46 1, zf_mul, zf_ild 4, zf_ic2 .ge 48, zf_ald 0, zf_ic 1, zf_ild 1, zf_ic (-1), zf_inv h 1 0 3], 48),
  (48, [zf_ald 2, zf_ic 3, zf_ild 3, zf_ic (-1), zf_inst h 1 54 4, zf_ist 5, zf_ild 3, zf_ic 3, zf_ic2 .ne 85, zf_ild 5, zf_ic (-1), zf_ic2 .eq 85, zf_ald 0, zf_ild 1, zf_ild 5, zf_inv h 1 23 2, zf_if .ne 85, zf_ald 0, zf_ic 3, zf_ild 1, zf_ic (-1), zf_inv h 1 0 3], 85),
  (85, [zf_ald 2, zf_ic 4, zf_ild 3, zf_ic (-1), zf_inst h 1 54 4, zf_ic (-1), zf_ic2 .eq 100, zf_ic 1, zf_go 101], 100),
  (100, [zf_ic 0], 101),
  (101, [zf_ist 6, zf_ild 3, zf_if .ne 137, zf_ild 6, zf_if .eq 137, zf_ald 0, zf_ild 1, zf_ic 0, zf_inv h 1 15 2, zf_if .eq 130, zf_ald 0, zf_ild 1, zf_ic 1, zf_inv h 1 15 2, zf_if .ne 137], 130),
  (130, [zf_ald 0, zf_ic 4, zf_ild 1, zf_ic (-1), zf_inv h 1 0 3], 137),
  (137, [zf_ret], 138)]
theorem zT1_19 (h : Nat) : zTab h 1 19 7 (zt1_19 h) := zTab.mk (ret := none) (bl := xk1_19) (by decide +kernel) (by decide +kernel) rfl rfl
def zt1_20 (h : Nat) : ZB := [(0, [zf_ald 0, zf_ild 1, zf_inv h 1 28 1, zf_if .eq 20, zf_ald 0, zf_ild 2, zf_inv h 1 28 1, zf_if .eq 20, zf_ic 1, zf_go 21], 20),
  (20, [zf_ic 0], 21),
  (21, [zf_ist 4, zf_ild 4, zf_if .eq 58, zf_ald 0, zf_ild 1, zf_inv h 1 36 1, zf_ald 0, zf_ild 2, zf_inv h 1 36 1, zf_ic2 .ne 58, zf_ald 0, zf_ild 1, zf_inv h 1 39 1, zf_ald 0, zf_ild 2, zf_inv h 1 39 1, zf_ic2 .eq 58, zf_ic 1, zf_go 59], 58),
  (58, [zf_ic 0], 59),
  (59, [zf_ist 5, zf_ald 0, zf_ild 1, zf_inv h 1 28 1, zf_if .ne 81, zf_ald 0, zf_ild 2, zf_inv h 1 28 1, zf_if .ne 81, zf_ic 1, zf_go 82], 81),
  (81, [zf_ic 0], 82),
  (82, [zf_ist 6, zf_ild 5, zf_if .eq 120, zf_ald 0, zf_ild 1, zf_ild 2, zf_ald 3, zf_ic 0, zf_ald 0, zf_ild 1, zf_inv h 1 7 1, zf_ald 0, zf_ild 2, zf_inv h 1 7 1, zf_inst h 1 54 4, zf_inv h 1 33 3, zf_if .eq 120, zf_ald 0, zf_ic 0, zf_ild 1, zf_ild 2, zf_inv h 1 0 3], 120),
  (120, [zf_ild 6, zf_if .eq 156, zf_ald 0, zf_ild 1, zf_ild 2, zf_ald 3, zf_ic 2, zf_ald 0, zf_ild 1, zf_inv h 1 7 1, zf_ald 0, zf_ild 2, zf_inv h 1 7 1, zf_inst h 1 54 4, zf_inv h 1 33 3, zf_if .eq 156, zf_ald 0, zf_ic 2, zf_ild 1, zf_ild 2, zf_inv h 1 0 3], 156),
  (156, [zf_ret], 157)]
theorem zT1_20 (h : Nat) : zTab h 1 20 7 (zt1_20 h) := zTab.mk (ret := none) (bl := xk1_20) (by decide +kernel) (by decide +kernel) rfl rfl
def zt1_21 (h : Nat) : ZB := [(0, [zf_ald 0, zf_ic 0, zf_putI 1 6, zf_ic 0, zf_ist 1], 7),
  (7, [zf_ild 1, zf_ald 0, zf_getR 1 1, zf_getI 7 2, zf_ic2 .ge 66, zf_ald 0, zf_ild 1, zf_inv h 1 7 1, zf_ic 2, zf_ic2 .eq 60, zf_ald 0, zf_getR 1 5, zf_ald 0, zf_getI 1 6, zf_ild 1, zf_astI, zf_ald 0, zf_getR 1 7, zf_ald 0, zf_getI 1 6, zf_ald 0, zf_getI 1 6, zf_astI, zf_ald 0, zf_dup, zf_getI 1 6, zf_ic 1, zf_add, zf_putI 1 6], 60),
  (60, [zf_inc 1 1, zf_go 7], 66),
  (66, [zf_ic 0, zf_ist 1], 68),
  (68, [zf_ild 1, zf_ald 0, zf_getI 1 6, zf_ic2 .ge 154, zf_ild 1, zf_ic 1, zf_add, zf_ist 2], 80),
  (80, [zf_ild 2, zf_ald 0, zf_getI 1 6, zf_ic2 .ge 148, zf_ald 0, zf_getR 1 7, zf_ild 1, zf_aldI 100, zf_ald 0, zf_getR 1 7, zf_ild 2, zf_aldI 100, zf_ic2 .eq 142, zf_ald 0, zf_ald 0, zf_getR 1 5, zf_ild 1, zf_aldI 100, zf_ald 0, zf_getR 1 5, zf_ild 2, zf_aldI 100, zf_inv h 1 52 2, zf_if .eq 142, zf_ald 0, zf_ald 0, zf_getR 1 7, zf_ild 1, zf_aldI 100, zf_ald 0, zf_getR 1 7, zf_ild 2, zf_aldI 100, zf_ald 0, zf_getI 1 6, zf_inv h 1 34 3], 142),
  (142, [zf_inc 2 1, zf_go 80], 148),
  (148, [zf_inc 1 1, zf_go 68], 154),
  (154, [zf_ald 0, zf_inv h 1 41 0, zf_ret], 159)]
theorem zT1_21 (h : Nat) : zTab h 1 21 3 (zt1_21 h) := zTab.mk (ret := none) (bl := xk1_21) (by decide +kernel) (by decide +kernel) rfl rfl
def zt1_22 (h : Nat) : ZB := [(0, [zf_ic 0, zf_ild 2, zf_ild 1, zf_sub, zf_ild 0, zf_ild 3, zf_sub, zf_max, zf_ild 4, zf_sub, zf_max, zf_i2l, zf_retl], 18)]
theorem zT1_22 (h : Nat) : zTab h 1 22 5 (zt1_22 h) := zTab.mk (ret := (some .long)) (bl := xk1_22) (by decide +kernel) (by decide +kernel) rfl rfl
def zt1_23 (h : Nat) : ZB := [(0, [zf_ic 0, zf_ist 3, zf_ic 0, zf_ist 4], 5),
  (5, [zf_ild 4, zf_ald 0, zf_getR 1 1, zf_getI 7 2, zf_ic2 .ge 122, zf_ild 3, zf_if .ne 122, zf_ald 0, zf_ild 4, zf_inv h 1 7 1, zf_ic 2, zf_ic2 .eq 41, zf_ald 0, zf_ild 4, zf_inv h 1 7 1, zf_ic 1, zf_ic2 .ne 59], 41),
  (41, [zf_ald 0, zf_ild 4, zf_inv h 1 39 1, zf_ald 0, zf_ild 1, zf_inv h 1 39 1, zf_ic2 .ne 59, zf_ic 1, zf_go 60], 59),
  (59, [zf_ic 0], 60),
  (60, [zf_ist 5, zf_ald 0, zf_ild 4, zf_inv h 1 46 1, zf_i2l, zf_ald 0, zf_ild 1, zf_inv h 1 46 1, zf_i2l, zf_lsub, zf_ild 2, zf_i2l, zf_lsub, zf_lst 6, zf_ild 5, zf_if .eq 114, zf_lld 6, zf_lc 0, zf_lcmp, zf_if .lt 114, zf_ald 0, zf_ild 4, zf_ild 1, zf_ic 0, zf_inv h 1 48 3, zf_lld 6, zf_lld 6, zf_lmul, zf_lcmp, zf_if .gt 114, zf_ic 1, zf_go 115], 114),
  (114, [zf_ic 0], 115),
  (115, [zf_ist 3, zf_inc 4 1, zf_go 5], 122),
  (122, [zf_ild 3, zf_retz], 124)]
theorem zT1_23 (h : Nat) : zTab h 1 23 8 (zt1_23 h) := zTab.mk (ret := (some .boolean)) (bl := xk1_23) (by decide +kernel) (by decide +kernel) rfl rfl
def zt1_24 (h : Nat) : ZB := [(0, [zf_ald 0, zf_ild 2, zf_ild 3, zf_ild 4, zf_inv h 0 5 3, zf_ist 5, zf_ild 5, zf_ic (-1), zf_ic2 .eq 31, zf_ald 0, zf_getR 0 8, zf_ild 5, zf_aldI 100, zf_ild 1, zf_ic2 .ne 31, zf_ic 1, zf_go 32], 31),
  (31, [zf_ic 0], 32),
  (32, [zf_retz], 33)]
theorem zT1_24 (h : Nat) : zTab h 1 24 6 (zt1_24 h) := zTab.mk (ret := (some .boolean)) (bl := xk1_24) (by decide +kernel) (by decide +kernel) rfl rfl
def zt1_25 (h : Nat) : ZB := [(0, [zf_ald 0, zf_getR 1 12, zf_ald 0, zf_getR 1 14, zf_ild 1, zf_aldI 100, zf_aldI 100, zf_inst h 1 57 1, zf_reti], 15)]
theorem zT1_25 (h : Nat) : zTab h 1 25 2 (zt1_25 h) := zTab.mk (ret := (some .int)) (bl := xk1_25) (by decide +kernel) (by decide +kernel) rfl rfl
def zt1_26 (h : Nat) : ZB := [(0, [zf_ald 0, zf_getR 1 12, zf_ald 0, zf_getR 1 14, zf_ild 1, zf_aldI 100, zf_aldI 100, zf_inst h 1 58 1, zf_reti], 15)]
theorem zT1_26 (h : Nat) : zTab h 1 26 2 (zt1_26 h) := zTab.mk (ret := (some .int)) (bl := xk1_26) (by decide +kernel) (by decide +kernel) rfl rfl
def zt1_28 (h : Nat) : ZB := [(0, [zf_ald 0, zf_ild 1, zf_inv h 1 7 1, zf_ic 3, zf_ic2 .eq 13, zf_ic 1, zf_go 14], 13),
  (13, [zf_ic 0], 14),
  (14, [zf_retz], 15)]
theorem zT1_28 (h : Nat) : zTab h 1 28 2 (zt1_28 h) := zTab.mk (ret := (some .boolean)) (bl := xk1_28) (by decide +kernel) (by decide +kernel) rfl rfl
def zt1_29 (h : Nat) : ZB := [(0, [zf_ild 0, zf_ic 48, zf_ic2 .lt 16, zf_ild 0, zf_ic 57, zf_ic2 .gt 16, zf_ic 1, zf_go 17], 16),
  (16, [zf_ic 0], 17),
  (17, [zf_retz], 18)]
theorem zT1_29 (h : Nat) : zTab h 1 29 1 (zt1_29 h) := zTab.mk (ret := (some .boolean)) (bl := xk1_29) (by decide +kernel) (by decide +kernel) rfl rfl
def zt1_30 (h : Nat) : ZB := [(0, [zf_ald 0, zf_getI 1 3, zf_if .eq 35, zf_ald 0, zf_getR 1 8, zf_getI 7 2, zf_if .ne 35, zf_ald 0, zf_getI 1 9, zf_if .ne 35, zf_ald 0, zf_getI 1 11, zf_if .ne 35, zf_ic 1, zf_go 36], 35),
  (35, [zf_ic 0], 36),
  (36, [zf_retz], 37)]
theorem zT1_30 (h : Nat) : zTab h 1 30 1 (zt1_30 h) := zTab.mk (ret := (some .boolean)) (bl := xk1_30) (by decide +kernel) (by decide +kernel) rfl rfl
def zt1_31 (h : Nat) : ZB := [(0, [zf_ild 0, zf_ic (-1), zf_ic2 .eq 10, zf_ild 0, zf_ild 1, zf_ic2 .ne 14], 10),
  (10, [zf_ic 1, zf_go 15], 14),
  (14, [zf_ic 0], 15),
  (15, [zf_retz], 16)]
theorem zT1_31 (h : Nat) : zTab h 1 31 2 (zt1_31 h) := zTab.mk (ret := (some .boolean)) (bl := xk1_31) (by decide +kernel) (by decide +kernel) rfl rfl
def zt1_32 (h : Nat) : ZB := [(0, [zf_ald 0, zf_getR 1 12, zf_ald 0, zf_getR 1 14, zf_ild 1, zf_aldI 100, zf_aldI 100, zf_ic 256, zf_div, zf_ild 2, zf_ic2 .ne 23, zf_ic 1, zf_go 24], 23),
  (23, [zf_ic 0], 24),
  (24, [zf_retz], 25)]
theorem zT1_32 (h : Nat) : zTab h 1 32 3 (zt1_32 h) := zTab.mk (ret := (some .boolean)) (bl := xk1_32) (by decide +kernel) (by decide +kernel) rfl rfl
def zt1_33 (h : Nat) : ZB := [(0, [zf_ild 3, zf_i2l, zf_ald 0, zf_ild 1, zf_inv h 1 46 1, zf_i2l, zf_ladd, zf_ald 0, zf_ild 2, zf_inv h 1 46 1, zf_i2l, zf_ladd, zf_lst 4, zf_ild 3, zf_ic (-1), zf_ic2 .eq 43, zf_ald 0, zf_ild 1, zf_ild 2, zf_ic 0, zf_inv h 1 48 3, zf_lld 4, zf_lld 4, zf_lmul, zf_lcmp, zf_if .ge 43, zf_ic 1, zf_go 44], 43),
  (43, [zf_ic 0], 44),
  (44, [zf_retz], 45)]
theorem zT1_33 (h : Nat) : zTab h 1 33 6 (zt1_33 h) := zTab.mk (ret := (some .boolean)) (bl := xk1_33) (by decide +kernel) (by decide +kernel) rfl rfl
def zt1_34 (h : Nat) : ZB := [(0, [zf_ild 1, zf_ild 2, zf_min, zf_ist 4, zf_ic 0, zf_ist 5], 10),
  (10, [zf_ild 5, zf_ild 3, zf_ic2 .ge 53, zf_ald 0, zf_getR 1 7, zf_ild 5, zf_aldI 100, zf_ild 1, zf_ic2 .eq 38, zf_ald 0, zf_getR 1 7, zf_ild 5, zf_aldI 100, zf_ild 2, zf_ic2 .ne 47], 38),
  (38, [zf_ald 0, zf_getR 1 7, zf_ild 5, zf_ild 4, zf_astI], 47),
  (47, [zf_inc 5 1, zf_go 10], 53),
  (53, [zf_ret], 54)]
theorem zT1_34 (h : Nat) : zTab h 1 34 6 (zt1_34 h) := zTab.mk (ret := none) (bl := xk1_34) (by decide +kernel) (by decide +kernel) rfl rfl
def zt1_35 (h : Nat) : ZB := [(0, [zf_ic 0, zf_ist 3], 2),
  (2, [zf_ild 3, zf_ald 0, zf_getI 1 4, zf_ic2 .ge 33, zf_ald 0, zf_getR 1 14, zf_ild 3, zf_aldI 100, zf_ild 2, zf_ic2 .ne 27, zf_ald 0, zf_getR 1 14, zf_ild 3, zf_ild 1, zf_astI], 27),
  (27, [zf_inc 3 1, zf_go 2], 33),
  (33, [zf_ret], 34)]
theorem zT1_35 (h : Nat) : zTab h 1 35 4 (zt1_35 h) := zTab.mk (ret := none) (bl := xk1_35) (by decide +kernel) (by decide +kernel) rfl rfl
def zt1_36 (h : Nat) : ZB := [(0, [zf_ald 0, zf_getR 1 1, zf_ild 1, zf_ic 2, zf_inv h 7 1 2, zf_reti], 10)]
theorem zT1_36 (h : Nat) : zTab h 1 36 2 (zt1_36 h) := zTab.mk (ret := (some .int)) (bl := xk1_36) (by decide +kernel) (by decide +kernel) rfl rfl
def zt1_37 (h : Nat) : ZB := [(0, [zf_ald 0, zf_ald 1, zf_getI 0 0, zf_putI 1 0, zf_ald 0, zf_ald 1, zf_inv h 0 17 0, zf_if .ne 20, zf_ic 1, zf_go 21], 20),
  (20, [zf_ic 0], 21),
  (21, [zf_putZ 1 3, zf_ald 0, zf_getR 1 1, zf_ic 0, zf_putI 7 2, zf_ald 0, zf_ic 0, zf_putZ 1 2, zf_ald 0, zf_ald 1, zf_getR 0 10, zf_getI 7 2, zf_putI 1 4, zf_ic 0, zf_ist 3], 50),
  (50, [zf_ild 3, zf_ald 0, zf_getI 1 4, zf_ic2 .ge 98, zf_ald 1, zf_ald 1, zf_ild 3, zf_inv h 0 18 1, zf_inst h 1 45 2, zf_ist 4, zf_ald 0, zf_ic 1, zf_ald 1, zf_ild 3, zf_inv h 0 19 1, zf_ald 1, zf_ald 1, zf_ild 3, zf_inv h 0 18 1, zf_inv h 0 14 1, zf_ild 4, zf_ild 4, zf_inv h 1 4 5, zf_inc 3 1, zf_go 50], 98),
  (98, [zf_ic 0, zf_ist 3], 100),
  (100, [zf_ild 3, zf_ald 1, zf_getR 0 11, zf_getI 7 2, zf_ic2 .ge 145, zf_ald 1, zf_ild 3, zf_inv h 0 12 1, zf_if .eq 139, zf_ald 0, zf_ald 1, zf_ild 3, zf_ic 1, zf_inv h 1 2 3, zf_ald 0, zf_ald 1, zf_ild 3, zf_ic 0, zf_inv h 1 2 3, zf_ald 0, zf_ald 1, zf_ild 3, zf_inv h 1 1 2], 139),
  (139, [zf_inc 3 1, zf_go 100], 145),
  (145, [zf_ald 0, zf_getI 1 2, zf_if .ne 173, zf_ald 0, zf_inv h 1 21 0, zf_ald 0, zf_inv h 1 17 0, zf_ald 0, zf_inv h 1 10 0, zf_ald 0, zf_ald 2, zf_inv h 1 18 1, zf_ald 0, zf_inv h 1 43 0], 173),
  (173, [zf_ret], 174)]
theorem zT1_37 (h : Nat) : zTab h 1 37 5 (zt1_37 h) := zTab.mk (ret := none) (bl := xk1_37) (by decide +kernel) (by decide +kernel) rfl rfl
def zt1_38 (h : Nat) : ZB := [(0, [zf_ic (-1), zf_ist 2, zf_lc 0, zf_lst 3, zf_ic 0, zf_ist 5], 7),
  (7, [zf_ild 5, zf_ald 0, zf_getI 1 4, zf_ic2 .ge 130, zf_ild 5, zf_ic 1, zf_add, zf_ist 6], 22),
  (22, [zf_ild 6, zf_ald 0, zf_getI 1 4, zf_ic2 .ge 124, zf_ald 0, zf_ild 5, zf_inv h 1 39 1, zf_ild 1, zf_ic2 .ne 72, zf_ald 0, zf_ild 6, zf_inv h 1 39 1, zf_ild 1, zf_ic2 .ne 72, zf_ald 0, zf_getR 1 14, zf_ild 5, zf_aldI 100, zf_ald 0, zf_getR 1 14, zf_ild 6, zf_aldI 100, zf_ic2 .eq 72, zf_ic 1, zf_go 73], 72),
  (72, [zf_ic 0], 73),
  (73, [zf_ist 7, zf_ild 7, zf_if .eq 118, zf_ild 2, zf_ic (-1), zf_ic2 .eq 99, zf_ald 0, zf_ild 5, zf_ild 6, zf_ic 0, zf_inv h 1 48 3, zf_lld 3, zf_lcmp, zf_if .ge 118], 99),
  (99, [zf_ic 60, zf_ild 5, zf_mul, zf_ild 6, zf_add, zf_ist 2, zf_ald 0, zf_ild 5, zf_ild 6, zf_ic 0, zf_inv h 1 48 3, zf_lst 3], 118),
  (118, [zf_inc 6 1, zf_go 22], 124),
  (124, [zf_inc 5 1, zf_go 7], 130),
  (130, [zf_ild 2, zf_reti], 132)]
theorem zT1_38 (h : Nat) : zTab h 1 38 8 (zt1_38 h) := zTab.mk (ret := (some .int)) (bl := xk1_38) (by decide +kernel) (by decide +kernel) rfl rfl
def zt1_39 (h : Nat) : ZB := [(0, [zf_ald 0, zf_getR 1 1, zf_ild 1, zf_ic 1, zf_inv h 7 1 2, zf_reti], 10)]
theorem zT1_39 (h : Nat) : zTab h 1 39 2 (zt1_39 h) := zTab.mk (ret := (some .int)) (bl := xk1_39) (by decide +kernel) (by decide +kernel) rfl rfl
def zt1_40 (h : Nat) : ZB := [(0, [zf_ic (-1), zf_ist 3, zf_ic 0, zf_ist 4], 5),
  (5, [zf_ild 4, zf_ald 0, zf_getI 1 13, zf_ic2 .ge 67, zf_ild 1, zf_ild 4, zf_bit zshr, zf_ic 1, zf_bit zand, zf_if .ne 27, zf_ic 1, zf_go 28], 27),
  (27, [zf_ic 0], 28),
  (28, [zf_ist 5, zf_ild 5, zf_if .eq 61, zf_ild 3, zf_ic (-1), zf_ic2 .eq 58, zf_ald 0, zf_ild 1, zf_ild 2, zf_ild 4, zf_inv h 1 53 3, zf_ald 0, zf_ild 1, zf_ild 2, zf_ild 3, zf_inv h 1 53 3, zf_ic2 .ge 61], 58),
  (58, [zf_ild 4, zf_ist 3], 61),
  (61, [zf_inc 4 1, zf_go 5], 67),
  (67, [zf_ild 3, zf_reti], 69)]
theorem zT1_40 (h : Nat) : zTab h 1 40 6 (zt1_40 h) := zTab.mk (ret := (some .int)) (bl := xk1_40) (by decide +kernel) (by decide +kernel) rfl rfl
def zt1_41 (h : Nat) : ZB := [(0, [zf_ic 0, zf_ist 1, zf_ic 0, zf_ist 2], 4),
  (4, [zf_ild 2, zf_ald 0, zf_getI 1 6, zf_ic2 .ge 38, zf_ald 0, zf_getR 1 7, zf_ild 2, zf_aldI 100, zf_ild 2, zf_ic2 .ne 32, zf_ald 0, zf_getR 1 14, zf_ild 2, zf_ild 1, zf_astI, zf_inc 1 1], 32),
  (32, [zf_inc 2 1, zf_go 4], 38),
  (38, [zf_ic 0, zf_ist 2], 40),
  (40, [zf_ild 2, zf_ald 0, zf_getI 1 6, zf_ic2 .ge 71, zf_ald 0, zf_getR 1 7, zf_ild 2, zf_ald 0, zf_getR 1 14, zf_ald 0, zf_getR 1 7, zf_ild 2, zf_aldI 100, zf_aldI 100, zf_astI, zf_inc 2 1, zf_go 40], 71),
  (71, [zf_ret], 72)]
theorem zT1_41 (h : Nat) : zTab h 1 41 3 (zt1_41 h) := zTab.mk (ret := none) (bl := xk1_41) (by decide +kernel) (by decide +kernel) rfl rfl
def zt1_42 (h : Nat) : ZB := [(0, [zf_ic 1, zf_ald 0, zf_getI 1 13, zf_bit zshl, zf_ic 1, zf_sub, zf_ist 1, zf_ild 1, zf_ist 2], 11),
  (11, [zf_ild 2, zf_if .le 74, zf_ic 0, zf_ist 3], 17),
  (17, [zf_ild 3, zf_ald 0, zf_getI 1 13, zf_ic2 .ge 68, zf_ald 0, zf_ild 2, zf_ild 3, zf_inv h 1 40 2, zf_ist 4, zf_ald 0, zf_getR 1 15, zf_ild 2, zf_ic 8, zf_mul, zf_ild 3, zf_add, zf_ild 4, zf_ic (-1), zf_ic2 .ne 53, zf_ic 0, zf_go 61], 53),
  (53, [zf_ald 0, zf_ild 2, zf_ild 3, zf_ild 4, zf_inv h 1 53 3], 61),
  (61, [zf_astI, zf_inc 3 1, zf_go 17], 68),
  (68, [zf_inc 2 (-1), zf_go 11], 74),
  (74, [zf_ic 0, zf_ist 2, zf_ic (-1), zf_ist 3, zf_ic 0, zf_ist 4], 81),
  (81, [zf_ild 4, zf_ald 0, zf_getI 1 13, zf_ic2 .ge 117, zf_ald 0, zf_ild 2, zf_ild 3, zf_inv h 1 40 2, zf_ist 3, zf_ald 0, zf_getR 1 14, zf_ild 4, zf_ild 3, zf_astI, zf_ild 2, zf_ic 1, zf_ild 3, zf_bit zshl, zf_bit zor, zf_ist 2, zf_inc 4 1, zf_go 81], 117),
  (117, [zf_ret], 118)]
theorem zT1_42 (h : Nat) : zTab h 1 42 5 (zt1_42 h) := zTab.mk (ret := none) (bl := xk1_42) (by decide +kernel) (by decide +kernel) rfl rfl
def zt1_43 (h : Nat) : ZB := [(0, [zf_ald 0, zf_ic 0, zf_putI 1 13, zf_ic 0, zf_ist 1], 7),
  (7, [zf_ild 1, zf_ald 0, zf_getR 1 1, zf_getI 7 2, zf_ic2 .ge 73, zf_ald 0, zf_ild 1, zf_inv h 1 7 1, zf_ic 3, zf_ic2 .ne 67, zf_ald 0, zf_getR 1 12, zf_ald 0, zf_getI 1 13, zf_ald 0, zf_ild 1, zf_inv h 1 36 1, zf_ic 16, zf_mul, zf_ic 16, zf_mul, zf_ald 0, zf_getR 1 1, zf_ild 1, zf_ic 3, zf_inv h 7 1 2, zf_add, zf_astI, zf_ald 0, zf_dup, zf_getI 1 13, zf_ic 1, zf_add, zf_putI 1 13], 67),
  (67, [zf_inc 1 1, zf_go 7], 73),
  (73, [zf_ald 0, zf_getI 1 13, zf_ic 8, zf_ic2 .gt 89, zf_ald 0, zf_inv h 1 42 0, zf_go 93], 89),
  (89, [zf_ald 0, zf_inv h 1 44 0], 93),
  (93, [zf_ret], 94)]
theorem zT1_43 (h : Nat) : zTab h 1 43 2 (zt1_43 h) := zTab.mk (ret := none) (bl := xk1_43) (by decide +kernel) (by decide +kernel) rfl rfl
def zt1_44 (h : Nat) : ZB := [(0, [zf_lc 0, zf_lst 1, zf_ic (-1), zf_ist 3, zf_ic 0, zf_ist 4], 7),
  (7, [zf_ild 4, zf_ald 0, zf_getI 1 13, zf_ic2 .ge 112, zf_ic (-1), zf_ist 5, zf_ic 0, zf_ist 6], 22),
  (22, [zf_ild 6, zf_ald 0, zf_getI 1 13, zf_ic2 .ge 87, zf_lld 1, zf_ild 6, zf_lsh zlshr, zf_lc 1, zf_lbit zland, zf_lc 0, zf_lcmp, zf_if .ne 46, zf_ic 1, zf_go 47], 46),
  (46, [zf_ic 0], 47),
  (47, [zf_ist 7, zf_ild 7, zf_if .eq 81, zf_ild 5, zf_ic (-1), zf_ic2 .eq 77, zf_ald 0, zf_ild 3, zf_ild 6, zf_inv h 1 55 2, zf_ald 0, zf_ild 3, zf_ild 5, zf_inv h 1 55 2, zf_ic2 .ge 81], 77),
  (77, [zf_ild 6, zf_ist 5], 81),
  (81, [zf_inc 6 1, zf_go 22], 87),
  (87, [zf_ald 0, zf_getR 1 14, zf_ild 4, zf_ild 5, zf_astI, zf_lld 1, zf_lc 1, zf_ild 5, zf_lsh zlshl, zf_lbit zlor, zf_lst 1, zf_ild 5, zf_ist 3, zf_inc 4 1, zf_go 7], 112),
  (112, [zf_ret], 113)]
theorem zT1_44 (h : Nat) : zTab h 1 44 8 (zt1_44 h) := zTab.mk (ret := none) (bl := xk1_44) (by decide +kernel) (by decide +kernel) rfl rfl
def zt1_45 (h : Nat) : ZB := [(0, [zf_ic 16, zf_ald 0, zf_ild 1, zf_inv h 0 21 1, zf_mul, zf_ald 0, zf_ild 1, zf_inv h 0 6 1, zf_add, zf_reti], 15)]
theorem zT1_45 (h : Nat) : zTab h 1 45 2 (zt1_45 h) := zTab.mk (ret := (some .int)) (bl := xk1_45) (by decide +kernel) (by decide +kernel) rfl rfl
def zt1_46 (h : Nat) : ZB := [(0, [zf_ald 0, zf_ild 1, zf_inv h 1 7 1, zf_ist 2, zf_ild 2, zf_if .lt 26, zf_ild 2, zf_rc 3, zf_len, zf_ic2 .ge 26, zf_rc 3, zf_ild 2, zf_aldI 100, zf_go 27], 26),
  (26, [zf_ic 0], 27),
  (27, [zf_reti], 28)]
theorem zT1_46 (h : Nat) : zTab h 1 46 3 (zt1_46 h) := zTab.mk (ret := (some .int)) (bl := xk1_46) (by decide +kernel) (by decide +kernel) rfl rfl
def zt1_47 (h : Nat) : ZB := [(0, [zf_ild 1, zf_if .lt 10, zf_ild 1, zf_ic 7, zf_ic2 .lt 12], 10),
  (10, [zf_ic (-1), zf_reti], 12),
  (12, [zf_ald 0, zf_ild 1, zf_inv h 1 56 1, zf_ald 0, zf_ic 0, zf_putI 1 18, zf_ald 0, zf_rc 31, zf_inv h 1 50 1, zf_if .eq 74, zf_ald 0, zf_inv h 1 49 0, zf_ild 1, zf_ic2 .ne 74, zf_ald 0, zf_rc 32, zf_inv h 1 50 1, zf_if .eq 74, zf_ald 0, zf_inv h 1 49 0, zf_ild 1, zf_ic 1, zf_add, zf_ic2 .ne 74, zf_ald 0, zf_rc 33, zf_inv h 1 50 1, zf_if .eq 74, zf_ic 1, zf_go 75], 74),
  (74, [zf_ic 0], 75),
  (75, [zf_ist 2, zf_ald 0, zf_ild 1, zf_inv h 1 9 1, zf_if .le 104, zf_ild 2, zf_if .eq 102, zf_ald 0, zf_rc 34, zf_inv h 1 50 1, zf_if .eq 102, zf_ic 1, zf_go 103], 102),
  (102, [zf_ic 0], 103),
  (103, [zf_ist 2], 104),
  (104, [zf_ic 0, zf_ist 3], 106),
  (106, [zf_ild 3, zf_ald 0, zf_getI 1 13, zf_ic2 .ge 193, zf_ild 2, zf_if .eq 193, zf_ald 0, zf_ild 3, zf_ild 1, zf_inv h 1 32 2, zf_if .eq 181, zf_ald 0, zf_rc 35, zf_inv h 1 50 1, zf_if .eq 185, zf_ald 0, zf_inv h 1 49 0, zf_ald 0, zf_ild 3, zf_inv h 1 25 1, zf_ic2 .ne 185, zf_ald 0, zf_rc 36, zf_inv h 1 50 1, zf_if .eq 185, zf_ald 0, zf_inv h 1 49 0, zf_ald 0, zf_ild 3, zf_inv h 1 26 1, zf_ic2 .ne 185, zf_ald 0, zf_rc 37, zf_inv h 1 50 1, zf_if .eq 185], 181),
  (181, [zf_ic 1, zf_go 186], 185),
  (185, [zf_ic 0], 186),
  (186, [zf_ist 2, zf_inc 3 1, zf_go 106], 193),
  (193, [zf_ild 2, zf_if .eq 222, zf_ald 0, zf_rc 38, zf_inv h 1 50 1, zf_if .eq 222, zf_ald 0, zf_getI 1 18, zf_ald 0, zf_getI 1 17, zf_ic2 .ne 222, zf_ic 1, zf_go 223], 222),
  (222, [zf_ic 0], 223),
  (223, [zf_reti], 224)]
theorem zT1_47 (h : Nat) : zTab h 1 47 4 (zt1_47 h) := zTab.mk (ret := (some .int)) (bl := xk1_47) (by decide +kernel) (by decide +kernel) rfl rfl
def zt1_48 (h : Nat) : ZB := [(0, [zf_ald 0, zf_ild 1, zf_ic 1, zf_ic 0, zf_inv h 1 12 3, zf_ald 0, zf_ild 1, zf_ic 1, zf_ic 1, zf_inv h 1 12 3, zf_ald 0, zf_ild 2, zf_ic 1, zf_ic 0, zf_inv h 1 12 3, zf_ald 0, zf_ild 2, zf_ic 1, zf_ic 1, zf_inv h 1 12 3, zf_ild 3, zf_inst h 1 22 5, zf_lst 4, zf_ald 0, zf_ild 1, zf_ic 0, zf_ic 0, zf_inv h 1 12 3, zf_ald 0, zf_ild 1, zf_ic 0, zf_ic 1, zf_inv h 1 12 3, zf_ald 0, zf_ild 2, zf_ic 0, zf_ic 0, zf_inv h 1 12 3, zf_ald 0, zf_ild 2, zf_ic 0, zf_ic 1, zf_inv h 1 12 3, zf_ild 3, zf_inst h 1 22 5, zf_lst 6, zf_lld 4, zf_lld 4, zf_lmul, zf_lld 6, zf_lld 6, zf_lmul, zf_ladd, zf_retl], 80)]
theorem zT1_48 (h : Nat) : zTab h 1 48 8 (zt1_48 h) := zTab.mk (ret := (some .long)) (bl := xk1_48) (by decide +kernel) (by decide +kernel) rfl rfl
def zt1_49 (h : Nat) : ZB := [(0, [zf_ald 0, zf_getI 1 18, zf_ist 1, zf_ic 0, zf_ist 2], 7),
  (7, [zf_ald 0, zf_getI 1 18, zf_ald 0, zf_getI 1 17, zf_ic2 .ge 74, zf_ald 0, zf_getI 1 18, zf_ild 1, zf_ic 5, zf_add, zf_ic2 .ge 74, zf_ald 0, zf_getR 1 16, zf_ald 0, zf_getI 1 18, zf_aldI 104, zf_inst h 1 29 1, zf_if .eq 74, zf_ild 2, zf_ic 10, zf_mul, zf_ald 0, zf_getR 1 16, zf_ald 0, zf_getI 1 18, zf_aldI 104, zf_add, zf_ic 48, zf_sub, zf_ist 2, zf_ald 0, zf_dup, zf_getI 1 18, zf_ic 1, zf_add, zf_putI 1 18, zf_go 7], 74),
  (74, [zf_ald 0, zf_getI 1 18, zf_ild 1, zf_ic2 .ne 86, zf_ic (-1), zf_go 87], 86),
  (86, [zf_ild 2], 87),
  (87, [zf_reti], 88)]
theorem zT1_49 (h : Nat) : zTab h 1 49 3 (zt1_49 h) := zTab.mk (ret := (some .int)) (bl := xk1_49) (by decide +kernel) (by decide +kernel) rfl rfl
def zt1_50 (h : Nat) : ZB := [(0, [zf_ic 1, zf_ist 2, zf_ic 0, zf_ist 3], 4),
  (4, [zf_ild 3, zf_ald 1, zf_slen, zf_ic2 .ge 66, zf_ild 2, zf_if .eq 66, zf_ald 0, zf_getI 1 18, zf_ald 0, zf_getI 1 17, zf_ic2 .ge 48, zf_ald 0, zf_getR 1 16, zf_ald 0, zf_getI 1 18, zf_aldI 104, zf_ald 1, zf_ild 3, zf_schar, zf_ic2 .ne 48, zf_ic 1, zf_go 49], 48),
  (48, [zf_ic 0], 49),
  (49, [zf_ist 2, zf_ald 0, zf_dup, zf_getI 1 18, zf_ic 1, zf_add, zf_putI 1 18, zf_inc 3 1, zf_go 4], 66),
  (66, [zf_ild 2, zf_retz], 68)]
theorem zT1_50 (h : Nat) : zTab h 1 50 4 (zt1_50 h) := zTab.mk (ret := (some .boolean)) (bl := xk1_50) (by decide +kernel) (by decide +kernel) rfl rfl
def zt1_51 (h : Nat) : ZB := [(0, [zf_ald 0, zf_ild 1, zf_inv h 1 36 1, zf_ald 0, zf_ild 1, zf_inv h 1 7 1, zf_ic 3, zf_ic2 .ne 18, zf_ic 1, zf_go 19], 18),
  (18, [zf_ic 0], 19),
  (19, [zf_add, zf_reti], 21)]
theorem zT1_51 (h : Nat) : zTab h 1 51 2 (zt1_51 h) := zTab.mk (ret := (some .int)) (bl := xk1_51) (by decide +kernel) (by decide +kernel) rfl rfl
def zt1_52 (h : Nat) : ZB := [(0, [zf_ald 0, zf_ild 1, zf_inv h 1 51 1, zf_ald 0, zf_ild 2, zf_inv h 1 51 1, zf_min, zf_ist 3, zf_ald 0, zf_ild 1, zf_inv h 1 36 1, zf_ald 0, zf_ild 2, zf_inv h 1 36 1, zf_max, zf_ild 3, zf_ic2 .le 33, zf_ic 0, zf_retz], 33),
  (33, [zf_ald 0, zf_ild 1, zf_inv h 1 7 1, zf_if .ne 45, zf_ic 1, zf_go 46], 45),
  (45, [zf_ic 0], 46),
  (46, [zf_ist 4, zf_ald 0, zf_ild 2, zf_inv h 1 7 1, zf_if .ne 60, zf_ic 1, zf_go 61], 60),
  (60, [zf_ic 0], 61),
  (61, [zf_ist 5, zf_ild 4, zf_if .eq 76, zf_ald 0, zf_ild 1, zf_inv h 1 46 1, zf_go 77], 76),
  (76, [zf_ic 0], 77),
  (77, [zf_ild 5, zf_if .eq 90, zf_ald 0, zf_ild 2, zf_inv h 1 46 1, zf_go 91], 90),
  (90, [zf_ic 0], 91),
  (91, [zf_add, zf_ist 6, zf_ild 4, zf_if .eq 103, zf_ic 0, zf_go 108], 103),
  (103, [zf_ald 0, zf_ild 1, zf_inv h 1 46 1], 108),
  (108, [zf_ild 5, zf_if .eq 117, zf_ic 0, zf_go 122], 117),
  (117, [zf_ald 0, zf_ild 2, zf_inv h 1 46 1], 122),
  (122, [zf_add, zf_i2l, zf_lst 7, zf_ald 0, zf_ild 1, zf_ild 2, zf_ild 6, zf_inv h 1 48 3, zf_lld 7, zf_lld 7, zf_lmul, zf_lcmp, zf_if .gt 147, zf_ic 1, zf_go 148], 147),
  (147, [zf_ic 0], 148),
  (148, [zf_retz], 149)]
theorem zT1_52 (h : Nat) : zTab h 1 52 9 (zt1_52 h) := zTab.mk (ret := (some .boolean)) (bl := xk1_52) (by decide +kernel) (by decide +kernel) rfl rfl
def zt1_53 (h : Nat) : ZB := [(0, [zf_ald 0, zf_ild 2, zf_ild 3, zf_inv h 1 55 2, zf_ald 0, zf_getR 1 15, zf_ild 1, zf_ic 1, zf_ild 3, zf_bit zshl, zf_bit zor, zf_ic 8, zf_mul, zf_ild 3, zf_add, zf_aldI 100, zf_add, zf_reti], 23)]
theorem zT1_53 (h : Nat) : zTab h 1 53 4 (zt1_53 h) := zTab.mk (ret := (some .int)) (bl := xk1_53) (by decide +kernel) (by decide +kernel) rfl rfl
def zt1_54 (h : Nat) : ZB := [(0, [zf_ald 0, zf_getI 7 2, zf_ic 1, zf_sub, zf_ist 4], 8),
  (8, [zf_ild 4, zf_if .lt 118, zf_ald 0, zf_ild 4, zf_ic 1, zf_inv h 7 1 2, zf_ist 5, zf_ald 0, zf_ild 4, zf_ic 2, zf_inv h 7 1 2, zf_ist 6, zf_ild 3, zf_ic (-1), zf_ic2 .ne 45, zf_ild 5, zf_ild 2, zf_inst h 1 31 2, zf_go 86], 45),
  (45, [zf_ild 5, zf_ild 2, zf_inst h 1 31 2, zf_if .eq 63, zf_ild 6, zf_ild 3, zf_inst h 1 31 2, zf_if .ne 81], 63),
  (63, [zf_ild 5, zf_ild 3, zf_inst h 1 31 2, zf_if .eq 85, zf_ild 6, zf_ild 2, zf_inst h 1 31 2, zf_if .eq 85], 81),
  (81, [zf_ic 1, zf_go 86], 85),
  (85, [zf_ic 0], 86),
  (86, [zf_ist 7, zf_ald 0, zf_ild 4, zf_ic 0, zf_inv h 7 1 2, zf_ild 1, zf_ic2 .ne 112, zf_ild 7, zf_if .eq 112, zf_ald 0, zf_ild 4, zf_ic 3, zf_inv h 7 1 2, zf_reti], 112),
  (112, [zf_inc 4 (-1), zf_go 8], 118),
  (118, [zf_ic (-1), zf_reti], 120)]
theorem zT1_54 (h : Nat) : zTab h 1 54 8 (zt1_54 h) := zTab.mk (ret := (some .int)) (bl := xk1_54) (by decide +kernel) (by decide +kernel) rfl rfl
def zt1_55 (h : Nat) : ZB := [(0, [zf_ald 0, zf_getR 1 12, zf_ild 2, zf_aldI 100, zf_inst h 1 57 1, zf_ist 3, zf_ald 0, zf_getR 1 12, zf_ild 2, zf_aldI 100, zf_inst h 1 58 1, zf_ist 4, zf_ild 1, zf_ic (-1), zf_ic2 .eq 52, zf_ild 3, zf_ald 0, zf_getR 1 12, zf_ild 1, zf_aldI 100, zf_inst h 1 57 1, zf_sub, zf_ist 3, zf_ild 4, zf_ald 0, zf_getR 1 12, zf_ild 1, zf_aldI 100, zf_inst h 1 58 1, zf_sub, zf_ist 4], 52),
  (52, [zf_ild 3, zf_abs, zf_ild 4, zf_abs, zf_max, zf_reti], 65)]
theorem zT1_55 (h : Nat) : zTab h 1 55 5 (zt1_55 h) := zTab.mk (ret := (some .int)) (bl := xk1_55) (by decide +kernel) (by decide +kernel) rfl rfl
def zt1_56 (h : Nat) : ZB := [(0, [zf_ald 0, zf_ic 0, zf_putI 1 17, zf_ald 0, zf_rc 31, zf_inv h 1 14 1, zf_ald 0, zf_ild 1, zf_inv h 1 13 1, zf_ald 0, zf_rc 32, zf_inv h 1 14 1, zf_ald 0, zf_ild 1, zf_ic 1, zf_add, zf_inv h 1 13 1, zf_ald 0, zf_rc 33, zf_inv h 1 14 1, zf_ald 0, zf_ild 1, zf_inv h 1 9 1, zf_if .le 53, zf_ald 0, zf_rc 34, zf_inv h 1 14 1], 53),
  (53, [zf_ic 0, zf_ist 2], 55),
  (55, [zf_ild 2, zf_ald 0, zf_getI 1 13, zf_ic2 .ge 117, zf_ald 0, zf_ild 2, zf_ild 1, zf_inv h 1 32 2, zf_if .eq 111, zf_ald 0, zf_rc 35, zf_inv h 1 14 1, zf_ald 0, zf_ald 0, zf_ild 2, zf_inv h 1 25 1, zf_inv h 1 13 1, zf_ald 0, zf_rc 36, zf_inv h 1 14 1, zf_ald 0, zf_ald 0, zf_ild 2, zf_inv h 1 26 1, zf_inv h 1 13 1, zf_ald 0, zf_rc 37, zf_inv h 1 14 1], 111),
  (111, [zf_inc 2 1, zf_go 55], 117),
  (117, [zf_ald 0, zf_rc 38, zf_inv h 1 14 1, zf_ret], 125)]
theorem zT1_56 (h : Nat) : zTab h 1 56 3 (zt1_56 h) := zTab.mk (ret := none) (bl := xk1_56) (by decide +kernel) (by decide +kernel) rfl rfl
def zt1_57 (h : Nat) : ZB := [(0, [zf_ic 1000, zf_ild 0, zf_ic 16, zf_rem, zf_mul, zf_reti], 9)]
theorem zT1_57 (h : Nat) : zTab h 1 57 1 (zt1_57 h) := zTab.mk (ret := (some .int)) (bl := xk1_57) (by decide +kernel) (by decide +kernel) rfl rfl
def zt1_58 (h : Nat) : ZB := [(0, [zf_ic 1000, zf_ild 0, zf_ic 16, zf_div, zf_ic 16, zf_rem, zf_mul, zf_reti], 12)]
theorem zT1_58 (h : Nat) : zTab h 1 58 1 (zt1_58 h) := zTab.mk (ret := (some .int)) (bl := xk1_58) (by decide +kernel) (by decide +kernel) rfl rfl
def zt2_0 (h : Nat) : ZB := [(0, [zf_ald 0, zf_getI 2 0, zf_ist 3, zf_ild 3, zf_ic 200, zf_ic2 .lt 14, zf_ic (-1), zf_reti], 14),
  (14, [zf_ald 0, zf_dup, zf_getI 2 0, zf_ic 1, zf_add, zf_putI 2 0, zf_ald 0, zf_getR 2 3, zf_ild 3, zf_ild 1, zf_astI, zf_ald 0, zf_getR 2 4, zf_ild 3, zf_ild 2, zf_astI, zf_ald 0, zf_getR 2 5, zf_ild 3, zf_ild 2, zf_if .lt 52, zf_ild 2, zf_ild 3, zf_ic2 .lt 56], 52),
  (52, [zf_ic 0, zf_go 64], 56),
  (56, [zf_ald 0, zf_getR 2 5, zf_ild 2, zf_aldI 100, zf_ic 1, zf_add], 64),
  (64, [zf_astI, zf_ic 0, zf_ist 4], 68),
  (68, [zf_ild 4, zf_ic 5, zf_ic2 .ge 92, zf_ald 0, zf_getR 2 6, zf_ild 3, zf_ic 5, zf_mul, zf_ild 4, zf_add, zf_lc 0, zf_astL, zf_inc 4 1, zf_go 68], 92),
  (92, [zf_ild 1, zf_ic 6, zf_ic2 .ne 107, zf_ald 0, zf_ild 3, zf_ic 2, zf_lc 1270000, zf_inv h 2 23 3], 107),
  (107, [zf_ic 0, zf_ist 4], 110),
  (110, [zf_ild 4, zf_ic 2, zf_ic2 .ge 149, zf_ald 0, zf_getR 2 7, zf_ild 3, zf_ic 2, zf_mul, zf_ild 4, zf_add, zf_ald 0, zf_getI 2 10, zf_astI, zf_ald 0, zf_getR 2 8, zf_ild 3, zf_ic 2, zf_mul, zf_ild 4, zf_add, zf_ic 0, zf_astI, zf_inc 4 1, zf_go 110], 149),
  (149, [zf_ild 3, zf_reti], 151)]
theorem zT2_0 (h : Nat) : zTab h 2 0 5 (zt2_0 h) := zTab.mk (ret := (some .int)) (bl := xk2_0) (by decide +kernel) (by decide +kernel) rfl rfl
def zt2_1 (h : Nat) : ZB := [(0, [zf_ald 0, zf_ild 1, zf_inv h 2 14 1, zf_if .eq 61, zf_ild 2, zf_if .lt 61, zf_ild 2, zf_ic 2, zf_ic2 .ge 61, zf_ald 0, zf_getI 2 10, zf_ic 4000, zf_ic2 .ge 61, zf_ald 0, zf_getR 2 9, zf_ald 0, zf_getI 2 10, zf_ild 3, zf_astC, zf_ald 0, zf_dup, zf_getI 2 10, zf_ic 1, zf_add, zf_putI 2 10, zf_ald 0, zf_getR 2 8, zf_ild 1, zf_ic 2, zf_mul, zf_ild 2, zf_add, zf_dup2, zf_aldI 100, zf_ic 1, zf_add, zf_astI], 61),
  (61, [zf_ret], 62)]
theorem zT2_1 (h : Nat) : zTab h 2 1 4 (zt2_1 h) := zTab.mk (ret := none) (bl := xk2_1) (by decide +kernel) (by decide +kernel) rfl rfl
def zt2_2 (h : Nat) : ZB := [(0, [zf_ald 0, zf_ild 1, zf_putI 2 1, zf_ald 0, zf_ic 0, zf_putI 2 0, zf_ald 0, zf_ic 0, zf_putI 2 2, zf_ald 0, zf_ic 0, zf_putI 2 10, zf_ret], 21)]
theorem zT2_2 (h : Nat) : zTab h 2 2 2 (zt2_2 h) := zTab.mk (ret := none) (bl := xk2_2) (by decide +kernel) (by decide +kernel) rfl rfl
def zt2_3 (h : Nat) : ZB := [(0, [zf_ald 0, zf_getI 2 12, zf_ic 26000, zf_ic2 .ge 30, zf_ald 0, zf_getR 2 11, zf_ald 0, zf_getI 2 12, zf_ild 1, zf_astC, zf_ald 0, zf_dup, zf_getI 2 12, zf_ic 1, zf_add, zf_putI 2 12], 30),
  (30, [zf_ret], 31)]
theorem zT2_3 (h : Nat) : zTab h 2 3 2 (zt2_3 h) := zTab.mk (ret := none) (bl := xk2_3) (by decide +kernel) (by decide +kernel) rfl rfl
def zt2_4 (h : Nat) : ZB := [(0, [zf_lld 1, zf_lc 0, zf_lcmp, zf_if .le 12, zf_ald 0, zf_ic 46, zf_inv h 2 3 1], 12),
  (12, [zf_lld 1, zf_lst 3, zf_lc 100000, zf_lst 5], 19),
  (19, [zf_lld 5, zf_lc 0, zf_lcmp, zf_if .le 62, zf_lld 3, zf_lc 0, zf_lcmp, zf_if .le 62, zf_ald 0, zf_lc 48, zf_lld 3, zf_lld 5, zf_ldiv, zf_ladd, zf_l2i, zf_cv zi2c, zf_inv h 2 3 1, zf_lld 3, zf_lld 5, zf_lrem, zf_lst 3, zf_lld 5, zf_lc 10, zf_ldiv, zf_lst 5, zf_go 19], 62),
  (62, [zf_ret], 63)]
theorem zT2_4 (h : Nat) : zTab h 2 4 7 (zt2_4 h) := zTab.mk (ret := none) (bl := xk2_4) (by decide +kernel) (by decide +kernel) rfl rfl
def zt2_5 (h : Nat) : ZB := [(0, [zf_lld 1, zf_lc 0, zf_lcmp, zf_if .ge 12, zf_ald 0, zf_ic 45, zf_inv h 2 3 1], 12),
  (12, [zf_lld 1, zf_labs, zf_lst 4, zf_ild 3, zf_if .eq 45, zf_ald 0, zf_lld 4, zf_lc 1000000, zf_ldiv, zf_inv h 2 10 1, zf_ald 0, zf_lld 4, zf_lc 1000000, zf_lrem, zf_inv h 2 4 1, zf_go 51], 45),
  (45, [zf_ald 0, zf_lld 4, zf_inv h 2 10 1], 51),
  (51, [zf_ret], 52)]
theorem zT2_5 (h : Nat) : zTab h 2 5 6 (zt2_5 h) := zTab.mk (ret := none) (bl := xk2_5) (by decide +kernel) (by decide +kernel) rfl rfl
def zt2_6 (h : Nat) : ZB := [(0, [zf_ald 0, zf_ald 0, zf_getR 2 3, zf_ild 1, zf_aldI 100, zf_inst h 2 28 1, zf_inv h 2 11 1, zf_ald 0, zf_getR 2 3, zf_ild 1, zf_aldI 100, zf_inst h 2 12 1, zf_ast 2, zf_ic 0, zf_ist 3, zf_ic 0, zf_ist 4, zf_ic 0, zf_ist 5], 31),
  (31, [zf_ild 5, zf_ald 2, zf_slen, zf_ic2 .ge 121, zf_ald 0, zf_ic 32, zf_inv h 2 3 1, zf_ald 2, zf_ild 5, zf_schar, zf_ist 6, zf_ild 6, zf_ic 86, zf_ic2 .ne 70, zf_ald 0, zf_ic 51, zf_inv h 2 3 1, zf_go 115], 70),
  (70, [zf_ild 6, zf_ic 84, zf_ic2 .ne 89, zf_ald 0, zf_ild 1, zf_ild 3, zf_inv h 2 7 2, zf_inc 3 1, zf_go 115], 89),
  (89, [zf_ald 0, zf_ald 0, zf_ild 1, zf_ild 4, zf_inv h 2 18 2, zf_ild 6, zf_ic 78, zf_ic2 .ne 108, zf_ic 1, zf_go 109], 108),
  (108, [zf_ic 0], 109),
  (109, [zf_inv h 2 5 2, zf_inc 4 1], 115),
  (115, [zf_inc 5 1, zf_go 31], 121),
  (121, [zf_ret], 122)]
theorem zT2_6 (h : Nat) : zTab h 2 6 7 (zt2_6 h) := zTab.mk (ret := none) (bl := xk2_6) (by decide +kernel) (by decide +kernel) rfl rfl
def zt2_7 (h : Nat) : ZB := [(0, [zf_ald 0, zf_ic 34, zf_inv h 2 3 1, zf_ic 0, zf_ist 3], 8),
  (8, [zf_ild 3, zf_ald 0, zf_ild 1, zf_ild 2, zf_inv h 2 26 2, zf_ic2 .ge 59, zf_ald 0, zf_ild 1, zf_ild 2, zf_ild 3, zf_inv h 2 17 3, zf_ist 4, zf_ild 4, zf_ic 34, zf_ic2 .eq 41, zf_ild 4, zf_ic 92, zf_ic2 .ne 47], 41),
  (41, [zf_ald 0, zf_ic 92, zf_inv h 2 3 1], 47),
  (47, [zf_ald 0, zf_ild 4, zf_inv h 2 3 1, zf_inc 3 1, zf_go 8], 59),
  (59, [zf_ald 0, zf_ic 34, zf_inv h 2 3 1, zf_ret], 66)]
theorem zT2_7 (h : Nat) : zTab h 2 7 5 (zt2_7 h) := zTab.mk (ret := none) (bl := xk2_7) (by decide +kernel) (by decide +kernel) rfl rfl
def zt2_8 (h : Nat) : ZB := [(0, [zf_ic 0, zf_ist 3], 2),
  (2, [zf_ild 3, zf_ald 0, zf_ild 1, zf_ild 2, zf_inv h 2 26 2, zf_ic2 .ge 29, zf_ald 0, zf_ald 0, zf_ild 1, zf_ild 2, zf_ild 3, zf_inv h 2 17 3, zf_inv h 2 3 1, zf_inc 3 1, zf_go 2], 29),
  (29, [zf_ret], 30)]
theorem zT2_8 (h : Nat) : zTab h 2 8 4 (zt2_8 h) := zTab.mk (ret := none) (bl := xk2_8) (by decide +kernel) (by decide +kernel) rfl rfl
def zt2_9 (h : Nat) : ZB := [(0, [zf_ic 0, zf_ist 3], 2),
  (2, [zf_ild 3, zf_ild 2, zf_ic2 .ge 18, zf_ald 0, zf_ild 1, zf_inv h 2 3 1, zf_inc 3 1, zf_go 2], 18),
  (18, [zf_ret], 19)]
theorem zT2_9 (h : Nat) : zTab h 2 9 4 (zt2_9 h) := zTab.mk (ret := none) (bl := xk2_9) (by decide +kernel) (by decide +kernel) rfl rfl
def zt2_10 (h : Nat) : ZB := [(0, [zf_ic 0, zf_ist 3, zf_lc 1000, zf_lst 4], 7),
  (7, [zf_lld 4, zf_lc 0, zf_lcmp, zf_if .le 71, zf_ild 3, zf_if .ne 32, zf_lld 1, zf_lld 4, zf_lcmp, zf_if .ge 32, zf_lld 4, zf_lc 1, zf_lcmp, zf_if .ne 36], 32),
  (32, [zf_ic 1, zf_go 37], 36),
  (36, [zf_ic 0], 37),
  (37, [zf_ist 3, zf_ild 3, zf_if .eq 60, zf_ald 0, zf_lc 48, zf_lld 1, zf_lld 4, zf_ldiv, zf_lc 10, zf_lrem, zf_ladd, zf_l2i, zf_cv zi2c, zf_inv h 2 3 1], 60),
  (60, [zf_lld 4, zf_lc 10, zf_ldiv, zf_lst 4, zf_go 7], 71),
  (71, [zf_ret], 72)]
theorem zT2_10 (h : Nat) : zTab h 2 10 6 (zt2_10 h) := zTab.mk (ret := none) (bl := xk2_10) (by decide +kernel) (by decide +kernel) rfl rfl
def zt2_11 (h : Nat) : ZB := [(0, [zf_ic 0, zf_ist 2], 2),
  (2, [zf_ild 2, zf_ald 1, zf_slen, zf_ic2 .ge 25, zf_ald 0, zf_ald 1, zf_ild 2, zf_schar, zf_inv h 2 3 1, zf_inc 2 1, zf_go 2], 25),
  (25, [zf_ret], 26)]
theorem zT2_11 (h : Nat) : zTab h 2 11 3 (zt2_11 h) := zTab.mk (ret := none) (bl := xk2_11) (by decide +kernel) (by decide +kernel) rfl rfl
def zt2_12 (h : Nat) : ZB := [(0, [zf_ild 0, zf_sw 79 0 8 [52, 55, 58, 61, 64, 67, 70, 73, 76]], 52),
  (52, [zf_rc 20, zf_reta], 55),
  (55, [zf_rc 21, zf_reta], 58),
  (58, [zf_rc 22, zf_reta], 61),
  (61, [zf_rc 23, zf_reta], 64),
  (64, [zf_rc 24, zf_reta], 67),
  (67, [zf_rc 25, zf_reta], 70),
  (70, [zf_rc 26, zf_reta], 73),
  (73, [zf_rc 27, zf_reta], 76),
  (76, [zf_rc 28, zf_reta], 79),
  (79, [zf_rc 19, zf_reta], 82)]
theorem zT2_12 (h : Nat) : zTab h 2 12 1 (zt2_12 h) := zTab.mk (ret := (some (.object "java/lang/String"))) (bl := xk2_12) (by decide +kernel) (by decide +kernel) rfl rfl
def zt2_14 (h : Nat) : ZB := [(0, [zf_ild 1, zf_if .lt 16, zf_ild 1, zf_ald 0, zf_getI 2 0, zf_ic2 .ge 16, zf_ic 1, zf_go 17], 16),
  (16, [zf_ic 0], 17),
  (17, [zf_retz], 18)]
theorem zT2_14 (h : Nat) : zTab h 2 14 2 (zt2_14 h) := zTab.mk (ret := (some .boolean)) (bl := xk2_14) (by decide +kernel) (by decide +kernel) rfl rfl
def zt2_15 (h : Nat) : ZB := [(0, [zf_ald 0, zf_ild 1, zf_ic 0, zf_inv h 2 24 2, zf_ild 3, zf_ist 5], 9),
  (9, [zf_ild 5, zf_ild 4, zf_ic2 .ge 39, zf_ild 5, zf_ald 2, zf_len, zf_ic2 .ge 39, zf_ald 0, zf_ild 1, zf_ic 0, zf_ald 2, zf_ild 5, zf_aldI 104, zf_inv h 2 1 3, zf_inc 5 1, zf_go 9], 39),
  (39, [zf_ald 0, zf_dup, zf_getI 2 2, zf_ild 4, zf_ild 3, zf_sub, zf_add, zf_putI 2 2, zf_ret], 53)]
theorem zT2_15 (h : Nat) : zTab h 2 15 6 (zt2_15 h) := zTab.mk (ret := none) (bl := xk2_15) (by decide +kernel) (by decide +kernel) rfl rfl
def zt2_16 (h : Nat) : ZB := [(0, [zf_ald 0, zf_ild 1, zf_inv h 2 14 1, zf_if .eq 17, zf_ald 0, zf_getR 2 3, zf_ild 1, zf_aldI 100, zf_go 18], 17),
  (17, [zf_ic (-1)], 18),
  (18, [zf_reti], 19)]
theorem zT2_16 (h : Nat) : zTab h 2 16 2 (zt2_16 h) := zTab.mk (ret := (some .int)) (bl := xk2_16) (by decide +kernel) (by decide +kernel) rfl rfl
def zt2_17 (h : Nat) : ZB := [(0, [zf_ald 0, zf_getR 2 9, zf_ald 0, zf_getR 2 7, zf_ild 1, zf_ic 2, zf_mul, zf_ild 2, zf_add, zf_aldI 100, zf_ild 3, zf_add, zf_aldI 104, zf_retc], 18)]
theorem zT2_17 (h : Nat) : zTab h 2 17 4 (zt2_17 h) := zTab.mk (ret := (some .char)) (bl := xk2_17) (by decide +kernel) (by decide +kernel) rfl rfl
def zt2_18 (h : Nat) : ZB := [(0, [zf_ild 2, zf_if .lt 30, zf_ild 2, zf_ic 5, zf_ic2 .ge 30, zf_ald 0, zf_ild 1, zf_inv h 2 14 1, zf_if .eq 30, zf_ald 0, zf_getR 2 6, zf_ild 1, zf_ic 5, zf_mul, zf_ild 2, zf_add, zf_aldL, zf_go 31], 30),
  (30, [zf_lc 0], 31),
  (31, [zf_retl], 32)]
theorem zT2_18 (h : Nat) : zTab h 2 18 3 (zt2_18 h) := zTab.mk (ret := (some .long)) (bl := xk2_18) (by decide +kernel) (by decide +kernel) rfl rfl
def zt2_19 (h : Nat) : ZB := [(0, [zf_ild 1, zf_if .lt 21, zf_ild 1, zf_ald 0, zf_getI 2 12, zf_ic2 .ge 21, zf_ald 0, zf_getR 2 11, zf_ild 1, zf_aldI 104, zf_go 22], 21),
  (21, [zf_ic (-1)], 22),
  (22, [zf_reti], 23)]
theorem zT2_19 (h : Nat) : zTab h 2 19 2 (zt2_19 h) := zTab.mk (ret := (some .int)) (bl := xk2_19) (by decide +kernel) (by decide +kernel) rfl rfl
def zt2_20 (h : Nat) : ZB := [(0, [zf_ald 0, zf_ild 1, zf_inv h 2 14 1, zf_if .eq 17, zf_ald 0, zf_getR 2 4, zf_ild 1, zf_aldI 100, zf_go 18], 17),
  (17, [zf_ic (-1)], 18),
  (18, [zf_reti], 19)]
theorem zT2_20 (h : Nat) : zTab h 2 20 2 (zt2_20 h) := zTab.mk (ret := (some .int)) (bl := xk2_20) (by decide +kernel) (by decide +kernel) rfl rfl
def zt2_21 (h : Nat) : ZB := [(0, [zf_ald 0, zf_ild 1, zf_ild 2, zf_inv h 2 18 2, zf_l2i, zf_reti], 8)]
theorem zT2_21 (h : Nat) : zTab h 2 21 3 (zt2_21 h) := zTab.mk (ret := (some .int)) (bl := xk2_21) (by decide +kernel) (by decide +kernel) rfl rfl
def zt2_22 (h : Nat) : ZB := [(0, [zf_ald 0, zf_ild 1, zf_ild 2, zf_inv h 2 26 2, zf_ald 0, zf_ild 3, zf_ild 4, zf_inv h 2 26 2, zf_ic2 .ne 20, zf_ic 1, zf_go 21], 20),
  (20, [zf_ic 0], 21),
  (21, [zf_ist 5, zf_ic 0, zf_ist 6], 26),
  (26, [zf_ild 6, zf_ald 0, zf_ild 1, zf_ild 2, zf_inv h 2 26 2, zf_ic2 .ge 75, zf_ild 5, zf_if .eq 75, zf_ald 0, zf_ild 1, zf_ild 2, zf_ild 6, zf_inv h 2 17 3, zf_ald 0, zf_ild 3, zf_ild 4, zf_ild 6, zf_inv h 2 17 3, zf_ic2 .ne 66, zf_ic 1, zf_go 67], 66),
  (66, [zf_ic 0], 67),
  (67, [zf_ist 5, zf_inc 6 1, zf_go 26], 75),
  (75, [zf_ild 5, zf_retz], 78)]
theorem zT2_22 (h : Nat) : zTab h 2 22 7 (zt2_22 h) := zTab.mk (ret := (some .boolean)) (bl := xk2_22) (by decide +kernel) (by decide +kernel) rfl rfl
def zt2_23 (h : Nat) : ZB := [(0, [zf_ald 0, zf_ild 1, zf_inv h 2 14 1, zf_if .eq 28, zf_ild 2, zf_if .lt 28, zf_ild 2, zf_ic 5, zf_ic2 .ge 28, zf_ald 0, zf_getR 2 6, zf_ild 1, zf_ic 5, zf_mul, zf_ild 2, zf_add, zf_lld 3, zf_astL], 28),
  (28, [zf_ret], 29)]
theorem zT2_23 (h : Nat) : zTab h 2 23 5 (zt2_23 h) := zTab.mk (ret := none) (bl := xk2_23) (by decide +kernel) (by decide +kernel) rfl rfl
def zt2_24 (h : Nat) : ZB := [(0, [zf_ald 0, zf_ild 1, zf_inv h 2 14 1, zf_if .eq 31, zf_ild 2, zf_if .lt 31, zf_ild 2, zf_ic 2, zf_ic2 .ge 31, zf_ald 0, zf_getR 2 7, zf_ild 1, zf_ic 2, zf_mul, zf_ild 2, zf_add, zf_ald 0, zf_getI 2 10, zf_astI], 31),
  (31, [zf_ret], 32)]
theorem zT2_24 (h : Nat) : zTab h 2 24 3 (zt2_24 h) := zTab.mk (ret := none) (bl := xk2_24) (by decide +kernel) (by decide +kernel) rfl rfl
def zt2_25 (h : Nat) : ZB := [(0, [zf_ald 0, zf_ild 1, zf_ild 2, zf_inv h 2 26 2, zf_ald 3, zf_slen, zf_ic2 .ne 17, zf_ic 1, zf_go 18], 17),
  (17, [zf_ic 0], 18),
  (18, [zf_ist 4, zf_ic 0, zf_ist 5], 23),
  (23, [zf_ild 5, zf_ald 3, zf_slen, zf_ic2 .ge 67, zf_ild 4, zf_if .eq 67, zf_ald 0, zf_ild 1, zf_ild 2, zf_ild 5, zf_inv h 2 17 3, zf_ald 3, zf_ild 5, zf_schar, zf_ic2 .ne 58, zf_ic 1, zf_go 59], 58),
  (58, [zf_ic 0], 59),
  (59, [zf_ist 4, zf_inc 5 1, zf_go 23], 67),
  (67, [zf_ild 4, zf_retz], 70)]
theorem zT2_25 (h : Nat) : zTab h 2 25 6 (zt2_25 h) := zTab.mk (ret := (some .boolean)) (bl := xk2_25) (by decide +kernel) (by decide +kernel) rfl rfl
def zt2_26 (h : Nat) : ZB := [(0, [zf_ald 0, zf_ild 1, zf_inv h 2 14 1, zf_if .eq 21, zf_ald 0, zf_getR 2 8, zf_ild 1, zf_ic 2, zf_mul, zf_ild 2, zf_add, zf_aldI 100, zf_go 22], 21),
  (21, [zf_ic 0], 22),
  (22, [zf_reti], 23)]
theorem zT2_26 (h : Nat) : zTab h 2 26 3 (zt2_26 h) := zTab.mk (ret := (some .int)) (bl := xk2_26) (by decide +kernel) (by decide +kernel) rfl rfl
def zt2_27 (h : Nat) : ZB := [(0, [zf_ild 3, zf_if .lt 24, zf_ild 3, zf_ald 0, zf_ild 1, zf_ild 2, zf_inv h 2 26 2, zf_ic2 .ge 24, zf_ald 0, zf_ild 1, zf_ild 2, zf_ild 3, zf_inv h 2 17 3, zf_go 25], 24),
  (24, [zf_ic (-1)], 25),
  (25, [zf_reti], 26)]
theorem zT2_27 (h : Nat) : zTab h 2 27 4 (zt2_27 h) := zTab.mk (ret := (some .int)) (bl := xk2_27) (by decide +kernel) (by decide +kernel) rfl rfl
def zt2_28 (h : Nat) : ZB := [(0, [zf_ild 0, zf_sw 79 0 8 [52, 55, 58, 61, 64, 67, 70, 73, 76]], 52),
  (52, [zf_rc 10, zf_reta], 55),
  (55, [zf_rc 11, zf_reta], 58),
  (58, [zf_rc 12, zf_reta], 61),
  (61, [zf_rc 13, zf_reta], 64),
  (64, [zf_rc 14, zf_reta], 67),
  (67, [zf_rc 15, zf_reta], 70),
  (70, [zf_rc 16, zf_reta], 73),
  (73, [zf_rc 17, zf_reta], 76),
  (76, [zf_rc 18, zf_reta], 79),
  (79, [zf_rc 19, zf_reta], 82)]
theorem zT2_28 (h : Nat) : zTab h 2 28 1 (zt2_28 h) := zTab.mk (ret := (some (.object "java/lang/String"))) (bl := xk2_28) (by decide +kernel) (by decide +kernel) rfl rfl
def zt2_29 (h : Nat) : ZB := [(0, [zf_ic 0, zf_ist 1], 2),
  (2, [zf_ild 1, zf_ald 0, zf_getI 2 0, zf_ic2 .ge 59, zf_ald 0, zf_ic 46, zf_ald 0, zf_getR 2 5, zf_ild 1, zf_aldI 100, zf_inv h 2 9 2, zf_ald 0, zf_getR 2 3, zf_ild 1, zf_aldI 100, zf_ic 9, zf_ic2 .ne 42, zf_ald 0, zf_ild 1, zf_ic 0, zf_inv h 2 8 2, zf_go 47], 42),
  (42, [zf_ald 0, zf_ild 1, zf_inv h 2 6 1], 47),
  (47, [zf_ald 0, zf_ic 10, zf_inv h 2 3 1, zf_inc 1 1, zf_go 2], 59),
  (59, [zf_ret], 60)]
theorem zT2_29 (h : Nat) : zTab h 2 29 2 (zt2_29 h) := zTab.mk (ret := none) (bl := xk2_29) (by decide +kernel) (by decide +kernel) rfl rfl
def zt2_30 (h : Nat) : ZB := [(0, [zf_ic 0, zf_ist 1, zf_ic 0, zf_ist 2], 4),
  (4, [zf_ild 2, zf_ald 0, zf_getI 2 0, zf_ic2 .ge 96], 12),
  (12, [zf_ild 1, zf_ald 0, zf_getR 2 5, zf_ild 2, zf_aldI 100, zf_ic2 .le 34, zf_ald 0, zf_ic 41, zf_inv h 2 3 1, zf_inc 1 (-1), zf_go 12], 34),
  (34, [zf_ild 2, zf_if .le 56, zf_ald 0, zf_ic 10, zf_inv h 2 3 1, zf_ald 0, zf_ic 32, zf_ald 0, zf_getR 2 5, zf_ild 2, zf_aldI 100, zf_inv h 2 9 2], 56),
  (56, [zf_ald 0, zf_getR 2 3, zf_ild 2, zf_aldI 100, zf_ic 9, zf_ic2 .ne 76, zf_ald 0, zf_ild 2, zf_ic 0, zf_inv h 2 8 2, zf_go 90], 76),
  (76, [zf_ald 0, zf_ic 40, zf_inv h 2 3 1, zf_ald 0, zf_ild 2, zf_inv h 2 6 1, zf_inc 1 1], 90),
  (90, [zf_inc 2 1, zf_go 4], 96),
  (96, [zf_ald 0, zf_ic 41, zf_ild 1, zf_inv h 2 9 2, zf_ald 0, zf_ic 10, zf_inv h 2 3 1, zf_ret], 110)]
theorem zT2_30 (h : Nat) : zTab h 2 30 3 (zt2_30 h) := zTab.mk (ret := none) (bl := xk2_30) (by decide +kernel) (by decide +kernel) rfl rfl
def zt2_31 (h : Nat) : ZB := [(0, [zf_ald 0, zf_ic 0, zf_putI 2 12, zf_ald 0, zf_getI 2 1, zf_if .ne 19, zf_ald 0, zf_inv h 2 30 0, zf_go 23], 19),
  (19, [zf_ald 0, zf_inv h 2 29 0], 23),
  (23, [zf_ret], 24)]
theorem zT2_31 (h : Nat) : zTab h 2 31 1 (zt2_31 h) := zTab.mk (ret := none) (bl := xk2_31) (by decide +kernel) (by decide +kernel) rfl rfl
def zt3_0 (h : Nat) : ZB := [(0, [zf_ald 0, zf_getR 3 0, zf_ild 1, zf_ic 0, zf_inv h 2 21 2, zf_ist 3, zf_ald 0, zf_getR 3 0, zf_ild 1, zf_ic 1, zf_inv h 2 21 2, zf_ist 4, zf_ald 0, zf_getR 3 0, zf_ild 1, zf_ic 0, zf_rc 30, zf_inv h 2 25 3, zf_if .eq 64, zf_ald 0, zf_getR 3 5, zf_ild 2, zf_ild 3, zf_ild 4, zf_inst h 3 11 4, zf_if .ne 63, zf_ald 0, zf_getR 3 5, zf_ild 2, zf_ild 3, zf_ild 4, zf_ic 0, zf_ic 0, zf_inv h 7 0 5, zf_pop], 63),
  (63, [zf_ret], 64),
  (64, [zf_ald 0, zf_getR 3 0, zf_ild 1, zf_ic 0, zf_ic 0, zf_inv h 2 27 3, zf_ic 94, zf_ic2 .ne 83, zf_ic 1, zf_go 84], 83),
  (83, [zf_ic 0], 84),
  (84, [zf_ist 5, zf_ald 0, zf_ild 1, zf_ild 5, zf_if .eq 97, zf_ic 1, zf_go 98], 97),
  (97, [zf_ic 0], 98),
  (98, [zf_inv h 3 28 2, zf_ist 6, zf_ild 6, zf_ic (-1), zf_ic2 .ne 110, zf_ret], 110),
  (110, [zf_ald 0, zf_getR 3 6, zf_ild 2, zf_ild 3, zf_ild 4, zf_ild 6, zf_ic 0, zf_inv h 7 0 5, zf_ist 7, zf_ild 5, zf_if .eq 144, zf_ild 7, zf_ic (-1), zf_ic2 .eq 144, zf_ald 0, zf_ild 7, zf_ild 2, zf_inv h 3 2 2], 144),
  (144, [zf_ret], 145)]
theorem zT3_0 (h : Nat) : zTab h 3 0 8 (zt3_0 h) := zTab.mk (ret := none) (bl := xk3_0) (by decide +kernel) (by decide +kernel) rfl rfl
def zt3_1 (h : Nat) : ZB := [(0, [zf_ald 0, zf_ald 0, zf_getR 3 0, zf_ild 2, zf_inv h 2 20 1, zf_inv h 3 36 1, zf_ist 3, zf_ald 0, zf_ild 3, zf_inv h 3 14 1, zf_if .ne 22, zf_ret], 22),
  (22, [zf_ald 0, zf_getR 3 0, zf_ild 2, zf_ic 0, zf_inv h 2 18 2, zf_ald 0, zf_getR 3 0, zf_ild 1, zf_ic 0, zf_inv h 2 18 2, zf_ladd, zf_lst 4, zf_ald 0, zf_getR 3 0, zf_ild 2, zf_ic 1, zf_inv h 2 18 2, zf_ald 0, zf_getR 3 0, zf_ild 1, zf_ic 1, zf_inv h 2 18 2, zf_ladd, zf_lst 6, zf_lld 4, zf_labs, zf_lc 1000000000, zf_lcmp, zf_if .gt 92, zf_lld 6, zf_labs, zf_lc 1000000000, zf_lcmp, zf_if .gt 92, zf_ic 1, zf_go 93], 92),
  (92, [zf_ic 0], 93),
  (93, [zf_ist 8, zf_ic 0, zf_ist 9], 98),
  (98, [zf_ild 9, zf_ald 0, zf_getR 3 8, zf_getI 7 2, zf_ic2 .ge 176, zf_ild 8, zf_if .eq 176, zf_ald 0, zf_getR 3 8, zf_ild 9, zf_ic 3, zf_inv h 7 1 2, zf_ild 2, zf_ic2 .ne 163, zf_ald 0, zf_getR 3 8, zf_ild 9, zf_ic 1, zf_inv h 7 1 2, zf_i2l, zf_lld 4, zf_lcmp, zf_if .ne 163, zf_ald 0, zf_getR 3 8, zf_ild 9, zf_ic 2, zf_inv h 7 1 2, zf_i2l, zf_lld 6, zf_lcmp, zf_if .eq 167], 163),
  (163, [zf_ic 1, zf_go 168], 167),
  (167, [zf_ic 0], 168),
  (168, [zf_ist 8, zf_inc 9 1, zf_go 98], 176),
  (176, [zf_ild 8, zf_if .eq 198, zf_ald 0, zf_getR 3 8, zf_ild 3, zf_lld 4, zf_l2i, zf_lld 6, zf_l2i, zf_ild 2, zf_ic 0, zf_inv h 7 0 5, zf_pop], 198),
  (198, [zf_ret], 199)]
theorem zT3_1 (h : Nat) : zTab h 3 1 10 (zt3_1 h) := zTab.mk (ret := none) (bl := xk3_1) (by decide +kernel) (by decide +kernel) rfl rfl
def zt3_2 (h : Nat) : ZB := [(0, [zf_ic 0, zf_ist 3], 2),
  (2, [zf_ild 3, zf_ald 0, zf_ild 2, zf_inv h 3 5 1, zf_ic2 .ge 53, zf_ald 0, zf_ild 2, zf_ild 3, zf_inv h 3 37 2, zf_ist 4, zf_ald 0, zf_getR 3 2, zf_ild 4, zf_ic 1, zf_inv h 7 1 2, zf_ic (-1), zf_ic2 .eq 47, zf_ald 0, zf_getR 3 7, zf_ild 1, zf_ild 4, zf_ic 0, zf_ic 0, zf_ic 0, zf_inv h 7 0 5, zf_pop], 47),
  (47, [zf_inc 3 1, zf_go 2], 53),
  (53, [zf_ret], 54)]
theorem zT3_2 (h : Nat) : zTab h 3 2 5 (zt3_2 h) := zTab.mk (ret := none) (bl := xk3_2) (by decide +kernel) (by decide +kernel) rfl rfl
def zt3_3 (h : Nat) : ZB := [(0, [zf_ald 0, zf_getR 3 0, zf_ild 1, zf_ic 0, zf_inv h 2 21 2, zf_ist 3, zf_ald 0, zf_getR 3 0, zf_ild 1, zf_ic 1, zf_inv h 2 21 2, zf_ist 4, zf_ald 0, zf_getR 3 0, zf_ild 1, zf_ic 2, zf_inv h 2 21 2, zf_ist 5, zf_ald 0, zf_getR 3 0, zf_ild 1, zf_ic 3, zf_inv h 2 21 2, zf_ist 6, zf_ild 3, zf_ild 5, zf_ic2 .ne 56, zf_ild 4, zf_ild 6, zf_ic2 .eq 72], 56),
  (56, [zf_ald 0, zf_getR 3 4, zf_ild 2, zf_ild 3, zf_ild 4, zf_ild 5, zf_ild 6, zf_inv h 7 0 5, zf_pop], 72),
  (72, [zf_ret], 73)]
theorem zT3_3 (h : Nat) : zTab h 3 3 7 (zt3_3 h) := zTab.mk (ret := none) (bl := xk3_3) (by decide +kernel) (by decide +kernel) rfl rfl
def zt3_4 (h : Nat) : ZB := [(0, [zf_ald 0, zf_ic 0, zf_putI 3 13, zf_ic 0, zf_ist 1, zf_ic 0, zf_ist 2], 9),
  (9, [zf_ild 2, zf_ald 0, zf_getR 3 6, zf_getI 7 2, zf_ic2 .ge 100, zf_ic 0, zf_ist 3], 22),
  (22, [zf_ild 3, zf_ald 0, zf_ald 0, zf_getR 3 6, zf_ild 2, zf_ic 0, zf_inv h 7 1 2, zf_inv h 3 5 1, zf_ic2 .ge 94, zf_ald 0, zf_ild 2, zf_ild 3, zf_inst h 3 26 2, zf_inv h 3 35 1, zf_ist 4, zf_ild 4, zf_ic 960, zf_ic2 .ge 88, zf_ald 0, zf_getR 3 12, zf_ild 1, zf_ald 0, zf_getR 3 10, zf_ild 4, zf_aldI 100, zf_ic 1000, zf_mul, zf_ald 0, zf_getR 3 6, zf_ild 2, zf_ic 3, zf_inv h 7 1 2, zf_add, zf_astI, zf_inc 1 1], 88),
  (88, [zf_inc 3 1, zf_go 22], 94),
  (94, [zf_inc 2 1, zf_go 9], 100),
  (100, [zf_ald 0, zf_getR 3 12, zf_ild 1, zf_inst h 11 49 2, zf_ald 0, zf_ild 1, zf_inv h 3 38 1, zf_ic 0, zf_ist 2], 115),
  (115, [zf_ild 2, zf_ald 0, zf_getR 3 6, zf_getI 7 2, zf_ic2 .ge 163, zf_ald 0, zf_ild 2, zf_inv h 3 15 1, zf_if .eq 157, zf_ald 0, zf_getR 3 12, zf_ald 0, zf_getI 3 13, zf_ic 100000000, zf_ild 2, zf_add, zf_astI, zf_ald 0, zf_dup, zf_getI 3 13, zf_ic 1, zf_add, zf_putI 3 13], 157),
  (157, [zf_inc 2 1, zf_go 115], 163),
  (163, [zf_ret], 164)]
theorem zT3_4 (h : Nat) : zTab h 3 4 5 (zt3_4 h) := zTab.mk (ret := none) (bl := xk3_4) (by decide +kernel) (by decide +kernel) rfl rfl
def zt3_5 (h : Nat) : ZB := [(0, [zf_ald 0, zf_getR 3 2, zf_ild 1, zf_ic 4, zf_inv h 7 1 2, zf_reti], 10)]
theorem zT3_5 (h : Nat) : zTab h 3 5 2 (zt3_5 h) := zTab.mk (ret := (some .int)) (bl := xk3_5) (by decide +kernel) (by decide +kernel) rfl rfl
def zt3_6 (h : Nat) : ZB := [(0, [zf_ald 0, zf_ald 1, zf_putR 3 0, zf_ald 0, zf_dup, zf_getI 3 15, zf_ic 1, zf_add, zf_putI 3 15, zf_ald 0, zf_inv h 3 8 0, zf_ald 0, zf_inv h 3 9 0, zf_ald 0, zf_inv h 3 17 0, zf_ald 0, zf_inv h 3 32 0, zf_ald 0, zf_inv h 3 4 0, zf_ret], 36)]
theorem zT3_6 (h : Nat) : zTab h 3 6 2 (zt3_6 h) := zTab.mk (ret := none) (bl := xk3_6) (by decide +kernel) (by decide +kernel) rfl rfl
def zt3_7 (h : Nat) : ZB := [(0, [zf_ald 0, zf_getR 3 4, zf_ild 1, zf_ic 0, zf_inv h 7 1 2, zf_ild 2, zf_ic2 .ne 44, zf_ald 0, zf_getR 3 4, zf_ild 1, zf_ic 3, zf_inv h 7 1 2, zf_ild 3, zf_ic2 .ne 44, zf_ald 0, zf_getR 3 4, zf_ild 1, zf_ic 4, zf_inv h 7 1 2, zf_ild 4, zf_ic2 .ne 44, zf_ic 1, zf_go 45], 44),
  (44, [zf_ic 0], 45),
  (45, [zf_retz], 46)]
theorem zT3_7 (h : Nat) : zTab h 3 7 5 (zt3_7 h) := zTab.mk (ret := (some .boolean)) (bl := xk3_7) (by decide +kernel) (by decide +kernel) rfl rfl
def zt3_8 (h : Nat) : ZB := [(0, [zf_ald 0, zf_getR 3 2, zf_ic 0, zf_putI 7 2, zf_ic 0, zf_ist 1], 10),
  (10, [zf_ild 1, zf_ald 0, zf_getR 3 0, zf_getI 2 0, zf_ic2 .ge 103, zf_ald 0, zf_getR 3 1, zf_ild 1, zf_ic (-1), zf_astI, zf_ald 0, zf_getR 3 0, zf_ild 1, zf_inv h 2 16 1, zf_ic 1, zf_ic2 .ne 97, zf_ald 0, zf_getR 3 2, zf_inv h 7 2 0, zf_if .eq 97, zf_ald 0, zf_getR 3 2, zf_ild 1, zf_ald 0, zf_ald 0, zf_getR 3 0, zf_ild 1, zf_inv h 2 20 1, zf_inv h 3 36 1, zf_ic (-1), zf_ic 0, zf_ic 1, zf_inv h 7 0 5, zf_ist 2, zf_ald 0, zf_getR 3 1, zf_ild 1, zf_ild 2, zf_astI, zf_ald 0, zf_getR 3 3, zf_ild 2, zf_ic 16, zf_mul, zf_ild 2, zf_astI, zf_ald 0, zf_ild 2, zf_ild 1, zf_inv h 3 27 2], 97),
  (97, [zf_inc 1 1, zf_go 10], 103),
  (103, [zf_ret], 104)]
theorem zT3_8 (h : Nat) : zTab h 3 8 3 (zt3_8 h) := zTab.mk (ret := none) (bl := xk3_8) (by decide +kernel) (by decide +kernel) rfl rfl
def zt3_9 (h : Nat) : ZB := [(0, [zf_ald 0, zf_getR 3 4, zf_ic 0, zf_putI 7 2, zf_ald 0, zf_getR 3 5, zf_ic 0, zf_putI 7 2, zf_ald 0, zf_getR 3 6, zf_ic 0, zf_putI 7 2, zf_ald 0, zf_getR 3 7, zf_ic 0, zf_putI 7 2, zf_ald 0, zf_getR 3 8, zf_ic 0, zf_putI 7 2, zf_ic 0, zf_ist 1], 42),
  (42, [zf_ild 1, zf_ald 0, zf_getR 3 0, zf_getI 2 0, zf_ic2 .ge 157, zf_ald 0, zf_getR 3 0, zf_ild 1, zf_inv h 2 16 1, zf_ist 2, zf_ald 0, zf_getR 3 0, zf_ild 1, zf_inv h 2 20 1, zf_ist 3, zf_ild 2, zf_ic 7, zf_ic2 .ne 102, zf_ald 0, zf_ald 0, zf_ild 3, zf_inv h 3 36 1, zf_inv h 3 14 1, zf_if .eq 102, zf_ald 0, zf_ild 1, zf_ald 0, zf_ild 3, zf_inv h 3 36 1, zf_inv h 3 3 2, zf_go 151], 102),
  (102, [zf_ild 2, zf_ic 6, zf_ic2 .ne 133, zf_ald 0, zf_ald 0, zf_ild 3, zf_inv h 3 36 1, zf_inv h 3 14 1, zf_if .eq 133, zf_ald 0, zf_ild 1, zf_ald 0, zf_ild 3, zf_inv h 3 36 1, zf_inv h 3 0 2, zf_go 151], 133),
  (133, [zf_ild 2, zf_ic 4, zf_ic2 .ne 151, zf_ald 0, zf_ild 1, zf_ald 0, zf_getR 3 0, zf_ild 3, zf_inv h 2 20 1, zf_inv h 3 1 2], 151),
  (151, [zf_inc 1 1, zf_go 42], 157),
  (157, [zf_ret], 158)]
theorem zT3_9 (h : Nat) : zTab h 3 9 4 (zt3_9 h) := zTab.mk (ret := none) (bl := xk3_9) (by decide +kernel) (by decide +kernel) rfl rfl
def zt3_10 (h : Nat) : ZB := [(0, [zf_ald 0, zf_getR 3 4, zf_ild 1, zf_ic 0, zf_inv h 7 1 2, zf_ild 2, zf_ic2 .eq 15, zf_ic 0, zf_retz], 15),
  (15, [zf_ald 0, zf_getR 3 4, zf_ild 1, zf_ic 1, zf_inv h 7 1 2, zf_i2l, zf_lst 5, zf_ald 0, zf_getR 3 4, zf_ild 1, zf_ic 2, zf_inv h 7 1 2, zf_i2l, zf_lst 7, zf_ald 0, zf_getR 3 4, zf_ild 1, zf_ic 3, zf_inv h 7 1 2, zf_i2l, zf_lst 9, zf_ald 0, zf_getR 3 4, zf_ild 1, zf_ic 4, zf_inv h 7 1 2, zf_i2l, zf_lst 11, zf_ild 3, zf_i2l, zf_lld 5, zf_lld 9, zf_lmin, zf_lcmp, zf_if .lt 148, zf_ild 3, zf_i2l, zf_lld 5, zf_lld 9, zf_lmax, zf_lcmp, zf_if .gt 148, zf_ild 4, zf_i2l, zf_lld 7, zf_lld 11, zf_lmin, zf_lcmp, zf_if .lt 148, zf_ild 4, zf_i2l, zf_lld 7, zf_lld 11, zf_lmax, zf_lcmp, zf_if .gt 148, zf_lld 9, zf_lld 5, zf_lsub, zf_ild 4, zf_i2l, zf_lld 7, zf_lsub, zf_lmul, zf_lld 11, zf_lld 7, zf_lsub, zf_ild 3, zf_i2l, zf_lld 5, zf_lsub, zf_lmul, zf_lcmp, zf_if .ne 148, zf_ic 1, zf_go 149], 148),
  (148, [zf_ic 0], 149),
  (149, [zf_retz], 150)]
theorem zT3_10 (h : Nat) : zTab h 3 10 13 (zt3_10 h) := zTab.mk (ret := (some .boolean)) (bl := xk3_10) (by decide +kernel) (by decide +kernel) rfl rfl
def zt3_11 (h : Nat) : ZB := [(0, [zf_ic 0, zf_ist 4, zf_ic 0, zf_ist 5], 6),
  (6, [zf_ild 5, zf_ald 0, zf_getI 7 2, zf_ic2 .ge 37, zf_ild 4, zf_if .ne 37, zf_ald 0, zf_ild 5, zf_ild 1, zf_ild 2, zf_ild 3, zf_inst h 3 13 5, zf_ist 4, zf_inc 5 1, zf_go 6], 37),
  (37, [zf_ild 4, zf_retz], 40)]
theorem zT3_11 (h : Nat) : zTab h 3 11 6 (zt3_11 h) := zTab.mk (ret := (some .boolean)) (bl := xk3_11) (by decide +kernel) (by decide +kernel) rfl rfl
def zt3_13 (h : Nat) : ZB := [(0, [zf_ald 0, zf_ild 1, zf_ic 0, zf_inv h 7 1 2, zf_ild 2, zf_ic2 .ne 35, zf_ald 0, zf_ild 1, zf_ic 1, zf_inv h 7 1 2, zf_ild 3, zf_ic2 .ne 35, zf_ald 0, zf_ild 1, zf_ic 2, zf_inv h 7 1 2, zf_ild 4, zf_ic2 .ne 35, zf_ic 1, zf_go 36], 35),
  (35, [zf_ic 0], 36),
  (36, [zf_retz], 37)]
theorem zT3_13 (h : Nat) : zTab h 3 13 5 (zt3_13 h) := zTab.mk (ret := (some .boolean)) (bl := xk3_13) (by decide +kernel) (by decide +kernel) rfl rfl
def zt3_14 (h : Nat) : ZB := [(0, [zf_ild 1, zf_ic (-1), zf_ic2 .eq 22, zf_ald 0, zf_getR 3 2, zf_ild 1, zf_ic 2, zf_inv h 7 1 2, zf_ild 1, zf_ic2 .ne 22, zf_ic 1, zf_go 23], 22),
  (22, [zf_ic 0], 23),
  (23, [zf_retz], 24)]
theorem zT3_14 (h : Nat) : zTab h 3 14 2 (zt3_14 h) := zTab.mk (ret := (some .boolean)) (bl := xk3_14) (by decide +kernel) (by decide +kernel) rfl rfl
def zt3_15 (h : Nat) : ZB := [(0, [zf_ald 0, zf_getR 3 6, zf_ild 1, zf_ic 0, zf_inv h 7 1 2, zf_ist 2, zf_ald 0, zf_getR 3 6, zf_ild 1, zf_ic 1, zf_inv h 7 1 2, zf_ist 3, zf_ald 0, zf_getR 3 6, zf_ild 1, zf_ic 2, zf_inv h 7 1 2, zf_ist 4, zf_ald 0, zf_getR 3 8, zf_ild 2, zf_ild 3, zf_ild 4, zf_inst h 3 11 4, zf_if .ne 49, zf_ic 1, zf_go 50], 49),
  (49, [zf_ic 0], 50),
  (50, [zf_ist 5, zf_ic 0, zf_ist 6], 55),
  (55, [zf_ild 6, zf_ald 0, zf_getR 3 4, zf_getI 7 2, zf_ic2 .ge 98, zf_ild 5, zf_if .eq 98, zf_ald 0, zf_ild 6, zf_ild 2, zf_ild 3, zf_ild 4, zf_inv h 3 10 4, zf_if .ne 89, zf_ic 1, zf_go 90], 89),
  (89, [zf_ic 0], 90),
  (90, [zf_ist 5, zf_inc 6 1, zf_go 55], 98),
  (98, [zf_ild 5, zf_retz], 101)]
theorem zT3_15 (h : Nat) : zTab h 3 15 7 (zt3_15 h) := zTab.mk (ret := (some .boolean)) (bl := xk3_15) (by decide +kernel) (by decide +kernel) rfl rfl
def zt3_16 (h : Nat) : ZB := [(0, [zf_ald 0, zf_ild 1, zf_inv h 3 35 1, zf_ist 3, zf_ald 0, zf_ild 2, zf_inv h 3 35 1, zf_ist 4, zf_ald 0, zf_getR 3 9, zf_ild 3, zf_ild 4, zf_max, zf_ild 3, zf_ild 4, zf_min, zf_astI, zf_ret], 31)]
theorem zT3_16 (h : Nat) : zTab h 3 16 5 (zt3_16 h) := zTab.mk (ret := none) (bl := xk3_16) (by decide +kernel) (by decide +kernel) rfl rfl
def zt3_17 (h : Nat) : ZB := [(0, [zf_ic 0, zf_ist 1], 2),
  (2, [zf_ild 1, zf_ic 19520, zf_ic2 .ge 22, zf_ald 0, zf_getR 3 9, zf_ild 1, zf_ild 1, zf_astI, zf_inc 1 1, zf_go 2], 22),
  (22, [zf_ald 0, zf_inv h 3 25 0, zf_ic 0, zf_ist 1], 28),
  (28, [zf_ild 1, zf_ald 0, zf_getR 3 5, zf_getI 7 2, zf_ic2 .ge 50, zf_ald 0, zf_ild 1, zf_inv h 3 18 1, zf_inc 1 1, zf_go 28], 50),
  (50, [zf_ald 0, zf_ald 0, zf_getR 3 6, zf_ic 960, zf_inv h 3 23 2, zf_ald 0, zf_ald 0, zf_getR 3 8, zf_ic 0, zf_inv h 3 23 2, zf_ald 0, zf_ald 0, zf_getR 3 6, zf_ic 960, zf_ald 0, zf_getR 3 6, zf_ic 960, zf_inv h 3 22 4, zf_ald 0, zf_ald 0, zf_getR 3 6, zf_ic 960, zf_ald 0, zf_getR 3 8, zf_ic 0, zf_inv h 3 22 4, zf_ald 0, zf_ald 0, zf_getR 3 8, zf_ic 0, zf_ald 0, zf_getR 3 8, zf_ic 0, zf_inv h 3 22 4, zf_ald 0, zf_inv h 3 20 0, zf_ald 0, zf_inv h 3 21 0, zf_ret], 127)]
theorem zT3_17 (h : Nat) : zTab h 3 17 2 (zt3_17 h) := zTab.mk (ret := none) (bl := xk3_17) (by decide +kernel) (by decide +kernel) rfl rfl
def zt3_18 (h : Nat) : ZB := [(0, [zf_ic (-1), zf_ist 2, zf_ic 0, zf_ist 3], 4),
  (4, [zf_ild 3, zf_ald 0, zf_getR 3 4, zf_getI 7 2, zf_ic2 .ge 69, zf_ald 0, zf_ild 3, zf_ald 0, zf_getR 3 5, zf_ild 1, zf_ic 0, zf_inv h 7 1 2, zf_ald 0, zf_getR 3 5, zf_ild 1, zf_ic 1, zf_inv h 7 1 2, zf_ald 0, zf_getR 3 5, zf_ild 1, zf_ic 2, zf_inv h 7 1 2, zf_inv h 3 10 4, zf_if .eq 63, zf_ild 2, zf_ic (-1), zf_ic2 .ne 57, zf_ild 3, zf_ist 2], 57),
  (57, [zf_ald 0, zf_ild 2, zf_ild 3, zf_inv h 3 24 2], 63),
  (63, [zf_inc 3 1, zf_go 4], 69),
  (69, [zf_ret], 70)]
theorem zT3_18 (h : Nat) : zTab h 3 18 4 (zt3_18 h) := zTab.mk (ret := none) (bl := xk3_18) (by decide +kernel) (by decide +kernel) rfl rfl
def zt3_19 (h : Nat) : ZB := [(0, [zf_ic 0, zf_ist 4], 3),
  (3, [zf_ild 4, zf_ald 0, zf_ild 3, zf_inv h 3 5 1, zf_ic2 .ge 31, zf_ald 0, zf_ild 1, zf_ild 4, zf_add, zf_ild 2, zf_ild 4, zf_add, zf_inv h 3 16 2, zf_inc 4 1, zf_go 3], 31),
  (31, [zf_ret], 32)]
theorem zT3_19 (h : Nat) : zTab h 3 19 5 (zt3_19 h) := zTab.mk (ret := none) (bl := xk3_19) (by decide +kernel) (by decide +kernel) rfl rfl
def zt3_20 (h : Nat) : ZB := [(0, [zf_ic 0, zf_ist 1], 2),
  (2, [zf_ild 1, zf_ald 0, zf_getR 3 6, zf_getI 7 2, zf_ic2 .ge 73, zf_ald 0, zf_getR 3 6, zf_ild 1, zf_ic 0, zf_inv h 7 1 2, zf_ist 2, zf_ic 0, zf_ist 3], 25),
  (25, [zf_ild 3, zf_ald 0, zf_ild 2, zf_inv h 3 5 1, zf_ic2 .ge 67, zf_ald 0, zf_ild 1, zf_ild 3, zf_inst h 3 26 2, zf_ald 0, zf_ild 2, zf_ild 3, zf_inv h 3 37 2, zf_ald 0, zf_getR 3 6, zf_ild 1, zf_ic 3, zf_inv h 7 1 2, zf_inst h 3 29 2, zf_inv h 3 16 2, zf_inc 3 1, zf_go 25], 67),
  (67, [zf_inc 1 1, zf_go 2], 73),
  (73, [zf_ret], 74)]
theorem zT3_20 (h : Nat) : zTab h 3 20 4 (zt3_20 h) := zTab.mk (ret := none) (bl := xk3_20) (by decide +kernel) (by decide +kernel) rfl rfl
def zt3_21 (h : Nat) : ZB := [(0, [zf_ic 0, zf_ist 1], 2),
  (2, [zf_ild 1, zf_ald 0, zf_getR 3 7, zf_getI 7 2, zf_ic2 .ge 81, zf_ald 0, zf_getR 3 7, zf_ild 1, zf_ic 0, zf_inv h 7 1 2, zf_ist 2, zf_ald 0, zf_getR 3 7, zf_ild 1, zf_ic 1, zf_inv h 7 1 2, zf_ist 3, zf_ald 0, zf_getR 3 2, zf_ild 3, zf_ic 1, zf_inv h 7 1 2, zf_ist 4, zf_ald 0, zf_ild 2, zf_ald 0, zf_getR 3 2, zf_ild 3, zf_ic 3, zf_inv h 7 1 2, zf_inst h 3 26 2, zf_ild 4, zf_ald 0, zf_getR 3 6, zf_ild 2, zf_ic 3, zf_inv h 7 1 2, zf_inst h 3 29 2, zf_inv h 3 16 2, zf_inc 1 1, zf_go 2], 81),
  (81, [zf_ret], 82)]
theorem zT3_21 (h : Nat) : zTab h 3 21 5 (zt3_21 h) := zTab.mk (ret := none) (bl := xk3_21) (by decide +kernel) (by decide +kernel) rfl rfl
def zt3_22 (h : Nat) : ZB := [(0, [zf_ic 0, zf_ist 5], 3),
  (3, [zf_ild 5, zf_ald 1, zf_getI 7 2, zf_ic2 .ge 92, zf_ic 0, zf_ist 6], 15),
  (15, [zf_ild 6, zf_ald 3, zf_getI 7 2, zf_ic2 .ge 86, zf_ald 3, zf_ild 6, zf_ald 1, zf_ild 5, zf_ic 0, zf_inv h 7 1 2, zf_ald 1, zf_ild 5, zf_ic 1, zf_inv h 7 1 2, zf_ald 1, zf_ild 5, zf_ic 2, zf_inv h 7 1 2, zf_inst h 3 13 5, zf_if .eq 80, zf_ald 0, zf_ild 2, zf_ild 5, zf_ic 16, zf_mul, zf_add, zf_ild 4, zf_ild 6, zf_ic 16, zf_mul, zf_add, zf_ald 1, zf_ild 5, zf_ic 0, zf_inv h 7 1 2, zf_inv h 3 19 3], 80),
  (80, [zf_inc 6 1, zf_go 15], 86),
  (86, [zf_inc 5 1, zf_go 3], 92),
  (92, [zf_ret], 93)]
theorem zT3_22 (h : Nat) : zTab h 3 22 7 (zt3_22 h) := zTab.mk (ret := none) (bl := xk3_22) (by decide +kernel) (by decide +kernel) rfl rfl
def zt3_23 (h : Nat) : ZB := [(0, [zf_ic 0, zf_ist 3], 2),
  (2, [zf_ild 3, zf_ald 1, zf_getI 7 2, zf_ic2 .ge 89, zf_ic 0, zf_ist 4], 13),
  (13, [zf_ild 4, zf_ald 0, zf_getR 3 4, zf_getI 7 2, zf_ic2 .ge 83, zf_ald 0, zf_ild 4, zf_ald 1, zf_ild 3, zf_ic 0, zf_inv h 7 1 2, zf_ald 1, zf_ild 3, zf_ic 1, zf_inv h 7 1 2, zf_ald 1, zf_ild 3, zf_ic 2, zf_inv h 7 1 2, zf_inv h 3 10 4, zf_if .eq 77, zf_ald 0, zf_ild 2, zf_ild 3, zf_ic 16, zf_mul, zf_add, zf_ic 1920, zf_ild 4, zf_ic 16, zf_mul, zf_add, zf_ald 1, zf_ild 3, zf_ic 0, zf_inv h 7 1 2, zf_inv h 3 19 3], 77),
  (77, [zf_inc 4 1, zf_go 13], 83),
  (83, [zf_inc 3 1, zf_go 2], 89),
  (89, [zf_ret], 90)]
theorem zT3_23 (h : Nat) : zTab h 3 23 5 (zt3_23 h) := zTab.mk (ret := none) (bl := xk3_23) (by decide +kernel) (by decide +kernel) rfl rfl
def zt3_24 (h : Nat) : ZB := [(0, [zf_ald 0, zf_ic 1920, zf_ild 1, zf_ic 16, zf_mul, zf_add, zf_ic 1920, zf_ild 2, zf_ic 16, zf_mul, zf_add, zf_ald 0, zf_getR 3 4, zf_ild 1, zf_ic 0, zf_inv h 7 1 2, zf_inv h 3 19 3, zf_ret], 30)]
theorem zT3_24 (h : Nat) : zTab h 3 24 3 (zt3_24 h) := zTab.mk (ret := none) (bl := xk3_24) (by decide +kernel) (by decide +kernel) rfl rfl
def zt3_25 (h : Nat) : ZB := [(0, [zf_ic 0, zf_ist 1], 2),
  (2, [zf_ild 1, zf_ald 0, zf_getR 3 4, zf_getI 7 2, zf_ic2 .ge 202, zf_ild 1, zf_ic 1, zf_add, zf_ist 2], 17),
  (17, [zf_ild 2, zf_ald 0, zf_getR 3 4, zf_getI 7 2, zf_ic2 .ge 196, zf_ald 0, zf_getR 3 4, zf_ild 2, zf_ald 0, zf_getR 3 4, zf_ild 1, zf_ic 0, zf_inv h 7 1 2, zf_ald 0, zf_getR 3 4, zf_ild 1, zf_ic 1, zf_inv h 7 1 2, zf_ald 0, zf_getR 3 4, zf_ild 1, zf_ic 2, zf_inv h 7 1 2, zf_inst h 3 13 5, zf_if .ne 174, zf_ald 0, zf_getR 3 4, zf_ild 2, zf_ald 0, zf_getR 3 4, zf_ild 1, zf_ic 0, zf_inv h 7 1 2, zf_ald 0, zf_getR 3 4, zf_ild 1, zf_ic 3, zf_inv h 7 1 2, zf_ald 0, zf_getR 3 4, zf_ild 1, zf_ic 4, zf_inv h 7 1 2, zf_inst h 3 13 5, zf_if .ne 174, zf_ald 0, zf_ild 2, zf_ald 0, zf_getR 3 4, zf_ild 1, zf_ic 0, zf_inv h 7 1 2, zf_ald 0, zf_getR 3 4, zf_ild 1, zf_ic 1, zf_inv h 7 1 2, zf_ald 0, zf_getR 3 4, zf_ild 1, zf_ic 2, zf_inv h 7 1 2, zf_inv h 3 7 4, zf_if .ne 174, zf_ald 0, zf_ild 2, zf_ald 0, zf_getR 3 4, zf_ild 1, zf_ic 0, zf_inv h 7 1 2, zf_ald 0, zf_getR 3 4, zf_ild 1, zf_ic 3, zf_inv h 7 1 2, zf_ald 0, zf_getR 3 4, zf_ild 1, zf_ic 4, zf_inv h 7 1 2, zf_inv h 3 7 4, zf_if .eq 178], 174),
  (174, [zf_ic 1, zf_go 179], 178),
  (178, [zf_ic 0], 179),
  (179, [zf_ist 3, zf_ild 3, zf_if .eq 190, zf_ald 0, zf_ild 1, zf_ild 2, zf_inv h 3 24 2], 190),
  (190, [zf_inc 2 1, zf_go 17], 196),
  (196, [zf_inc 1 1, zf_go 2], 202),
  (202, [zf_ret], 203)]
theorem zT3_25 (h : Nat) : zTab h 3 25 4 (zt3_25 h) := zTab.mk (ret := none) (bl := xk3_25) (by decide +kernel) (by decide +kernel) rfl rfl
def zt3_26 (h : Nat) : ZB := [(0, [zf_ic 960, zf_ild 0, zf_ic 16, zf_mul, zf_add, zf_ild 1, zf_add, zf_reti], 11)]
theorem zT3_26 (h : Nat) : zTab h 3 26 2 (zt3_26 h) := zTab.mk (ret := (some .int)) (bl := xk3_26) (by decide +kernel) (by decide +kernel) rfl rfl
def zt3_27 (h : Nat) : ZB := [(0, [zf_ald 0, zf_ild 1, zf_ild 2, zf_inv h 3 33 2, zf_ist 3, zf_ald 0, zf_getR 3 2, zf_ild 1, zf_ic 2, zf_ild 3, zf_ic (-1), zf_ic2 .ne 22, zf_ild 1, zf_go 23], 22),
  (22, [zf_ild 3], 23),
  (23, [zf_inv h 7 4 3, zf_ild 3, zf_ic (-1), zf_ic2 .eq 75, zf_ald 0, zf_ild 3, zf_inv h 3 5 1, zf_ist 4, zf_ald 0, zf_getR 3 3, zf_ild 3, zf_ic 16, zf_mul, zf_ild 4, zf_add, zf_ild 1, zf_astI, zf_ald 0, zf_getR 3 2, zf_ild 3, zf_ic 4, zf_ild 4, zf_ic 1, zf_add, zf_inv h 7 4 3, zf_ald 0, zf_getR 3 2, zf_ild 1, zf_ic 3, zf_ild 4, zf_inv h 7 4 3], 75),
  (75, [zf_ret], 76)]
theorem zT3_27 (h : Nat) : zTab h 3 27 5 (zt3_27 h) := zTab.mk (ret := none) (bl := xk3_27) (by decide +kernel) (by decide +kernel) rfl rfl
def zt3_28 (h : Nat) : ZB := [(0, [zf_ald 0, zf_getR 3 0, zf_ild 1, zf_ic 0, zf_inv h 2 26 2, zf_ist 3, zf_ild 3, zf_ild 2, zf_sub, zf_ic 1, zf_ic2 .lt 24, zf_ild 3, zf_ild 2, zf_sub, zf_ic 3, zf_ic2 .le 26], 24),
  (24, [zf_ic (-1), zf_reti], 26),
  (26, [zf_ic 0, zf_ist 4, zf_ild 2, zf_ist 5], 32),
  (32, [zf_ild 5, zf_ild 3, zf_ic2 .ge 94, zf_ild 4, zf_ic (-1), zf_ic2 .eq 94, zf_ald 0, zf_getR 3 0, zf_ild 1, zf_ic 0, zf_ild 5, zf_inv h 2 27 3, zf_ist 6, zf_ild 6, zf_ic 48, zf_ic2 .lt 85, zf_ild 6, zf_ic 57, zf_ic2 .gt 85, zf_ild 4, zf_ic 10, zf_mul, zf_ild 6, zf_add, zf_ic 48, zf_sub, zf_go 86], 85),
  (85, [zf_ic (-1)], 86),
  (86, [zf_ist 4, zf_inc 5 1, zf_go 32], 94),
  (94, [zf_ild 4, zf_reti], 97)]
theorem zT3_28 (h : Nat) : zTab h 3 28 7 (zt3_28 h) := zTab.mk (ret := (some .int)) (bl := xk3_28) (by decide +kernel) (by decide +kernel) rfl rfl
def zt3_29 (h : Nat) : ZB := [(0, [zf_ic 3520, zf_ild 1, zf_ic 900, zf_ic2 .lt 14, zf_ic 0, zf_go 19], 14),
  (14, [zf_ild 0, zf_ic 1000, zf_mul], 19),
  (19, [zf_add, zf_ild 1, zf_add, zf_reti], 23)]
theorem zT3_29 (h : Nat) : zTab h 3 29 2 (zt3_29 h) := zTab.mk (ret := (some .int)) (bl := xk3_29) (by decide +kernel) (by decide +kernel) rfl rfl
def zt3_30 (h : Nat) : ZB := [(0, [zf_ild 1, zf_if .lt 21, zf_ild 1, zf_ald 0, zf_getI 3 14, zf_ic2 .ge 21, zf_ald 0, zf_getR 3 11, zf_ild 1, zf_aldI 100, zf_go 24], 21),
  (21, [zf_ic (-1000)], 24),
  (24, [zf_reti], 25)]
theorem zT3_30 (h : Nat) : zTab h 3 30 2 (zt3_30 h) := zTab.mk (ret := (some .int)) (bl := xk3_30) (by decide +kernel) (by decide +kernel) rfl rfl
def zt3_31 (h : Nat) : ZB := [(0, [zf_ild 1, zf_if .lt 19, zf_ild 1, zf_ald 0, zf_getR 3 8, zf_getI 7 2, zf_ic2 .ge 19, zf_ic 1, zf_go 20], 19),
  (19, [zf_ic 0], 20),
  (20, [zf_ist 3, zf_ild 3, zf_if .eq 60, zf_ild 2, zf_if .lt 60, zf_ild 2, zf_ald 0, zf_ald 0, zf_getR 3 8, zf_ild 1, zf_ic 0, zf_inv h 7 1 2, zf_inv h 3 5 1, zf_ic2 .ge 60, zf_ald 0, zf_getR 3 10, zf_ild 1, zf_ic 16, zf_mul, zf_ild 2, zf_add, zf_aldI 100, zf_go 61], 60),
  (60, [zf_ic (-1)], 61),
  (61, [zf_reti], 62)]
theorem zT3_31 (h : Nat) : zTab h 3 31 4 (zt3_31 h) := zTab.mk (ret := (some .int)) (bl := xk3_31) (by decide +kernel) (by decide +kernel) rfl rfl
def zt3_32 (h : Nat) : ZB := [(0, [zf_ald 0, zf_ic 0, zf_putI 3 14, zf_ic 0, zf_ist 1], 7),
  (7, [zf_ild 1, zf_ald 0, zf_getR 3 8, zf_getI 7 2, zf_ic2 .ge 117, zf_ic 0, zf_ist 2], 20),
  (20, [zf_ild 2, zf_ald 0, zf_ald 0, zf_getR 3 8, zf_ild 1, zf_ic 0, zf_inv h 7 1 2, zf_inv h 3 5 1, zf_ic2 .ge 111, zf_ild 1, zf_ic 16, zf_mul, zf_ild 2, zf_add, zf_ist 3, zf_ald 0, zf_ild 3, zf_inv h 3 35 1, zf_ist 4, zf_ild 4, zf_ild 3, zf_ic2 .ne 92, zf_ald 0, zf_getR 3 11, zf_ald 0, zf_getI 3 14, zf_ic (-1), zf_ild 1, zf_sub, zf_astI, zf_ald 0, zf_getR 3 10, zf_ild 3, zf_ald 0, zf_getI 3 14, zf_astI, zf_ald 0, zf_dup, zf_getI 3 14, zf_ic 1, zf_add, zf_putI 3 14, zf_go 105], 92),
  (92, [zf_ald 0, zf_getR 3 10, zf_ild 3, zf_ald 0, zf_getR 3 10, zf_ild 4, zf_aldI 100, zf_astI], 105),
  (105, [zf_inc 2 1, zf_go 20], 111),
  (111, [zf_inc 1 1, zf_go 7], 117),
  (117, [zf_ret], 118)]
theorem zT3_32 (h : Nat) : zTab h 3 32 5 (zt3_32 h) := zTab.mk (ret := none) (bl := xk3_32) (by decide +kernel) (by decide +kernel) rfl rfl
def zt3_33 (h : Nat) : ZB := [(0, [zf_ic (-1), zf_ist 3, zf_ild 2, zf_ic 1, zf_add, zf_ist 4], 7),
  (7, [zf_ild 4, zf_ald 0, zf_getR 3 0, zf_getI 2 0, zf_ic2 .ge 91, zf_ild 3, zf_ic (-1), zf_ic2 .ne 91, zf_ald 0, zf_getR 3 0, zf_ild 4, zf_inv h 2 20 1, zf_ild 2, zf_ic2 .ne 55, zf_ald 0, zf_getR 3 0, zf_ild 4, zf_inv h 2 16 1, zf_ic 8, zf_ic2 .ne 55, zf_ic 1, zf_go 56], 55),
  (55, [zf_ic 0], 56),
  (56, [zf_ist 5, zf_ild 5, zf_if .eq 83, zf_ald 0, zf_getR 3 0, zf_ild 4, zf_ic 0, zf_rc 29, zf_inv h 2 25 3, zf_if .eq 83, zf_ild 4, zf_go 84], 83),
  (83, [zf_ic (-1)], 84),
  (84, [zf_ist 3, zf_inc 4 1, zf_go 7], 91),
  (91, [zf_ic 0, zf_ist 4], 94),
  (94, [zf_ild 4, zf_ild 1, zf_ic2 .ge 146, zf_ild 3, zf_ic (-1), zf_ic2 .eq 146, zf_ald 0, zf_ild 4, zf_inv h 3 14 1, zf_if .eq 140, zf_ald 0, zf_getR 3 0, zf_ild 3, zf_ic 1, zf_ald 0, zf_getR 3 2, zf_ild 4, zf_ic 0, zf_inv h 7 1 2, zf_ic 0, zf_inv h 2 22 4, zf_if .eq 140, zf_ild 4, zf_reti], 140),
  (140, [zf_inc 4 1, zf_go 94], 146),
  (146, [zf_ic (-1), zf_reti], 148)]
theorem zT3_33 (h : Nat) : zTab h 3 33 6 (zt3_33 h) := zTab.mk (ret := (some .int)) (bl := xk3_33) (by decide +kernel) (by decide +kernel) rfl rfl
def zt3_34 (h : Nat) : ZB := [(0, [zf_ild 1, zf_if .lt 21, zf_ild 1, zf_ald 0, zf_getI 3 13, zf_ic2 .ge 21, zf_ald 0, zf_getR 3 12, zf_ild 1, zf_aldI 100, zf_go 22], 21),
  (21, [zf_ic (-1)], 22),
  (22, [zf_reti], 23)]
theorem zT3_34 (h : Nat) : zTab h 3 34 2 (zt3_34 h) := zTab.mk (ret := (some .int)) (bl := xk3_34) (by decide +kernel) (by decide +kernel) rfl rfl
def zt3_35 (h : Nat) : ZB := [(0, [zf_ild 1, zf_ist 2, zf_ic 0, zf_ist 3], 4),
  (4, [zf_ild 3, zf_ic 19520, zf_ic2 .ge 51, zf_ald 0, zf_getR 3 9, zf_ild 2, zf_aldI 100, zf_ild 2, zf_ic2 .eq 51, zf_ald 0, zf_getR 3 9, zf_ild 2, zf_ald 0, zf_getR 3 9, zf_ald 0, zf_getR 3 9, zf_ild 2, zf_aldI 100, zf_aldI 100, zf_astI, zf_ald 0, zf_getR 3 9, zf_ild 2, zf_aldI 100, zf_ist 2, zf_inc 3 1, zf_go 4], 51),
  (51, [zf_ild 2, zf_reti], 53)]
theorem zT3_35 (h : Nat) : zTab h 3 35 4 (zt3_35 h) := zTab.mk (ret := (some .int)) (bl := xk3_35) (by decide +kernel) (by decide +kernel) rfl rfl
def zt3_36 (h : Nat) : ZB := [(0, [zf_ild 1, zf_if .lt 24, zf_ild 1, zf_ald 0, zf_getR 3 0, zf_getI 2 0, zf_ic2 .ge 24, zf_ald 0, zf_getR 3 1, zf_ild 1, zf_aldI 100, zf_go 25], 24),
  (24, [zf_ic (-1)], 25),
  (25, [zf_reti], 26)]
theorem zT3_36 (h : Nat) : zTab h 3 36 2 (zt3_36 h) := zTab.mk (ret := (some .int)) (bl := xk3_36) (by decide +kernel) (by decide +kernel) rfl rfl
def zt3_37 (h : Nat) : ZB := [(0, [zf_ald 0, zf_getR 3 3, zf_ild 1, zf_ic 16, zf_mul, zf_ild 2, zf_add, zf_aldI 100, zf_reti], 12)]
theorem zT3_37 (h : Nat) : zTab h 3 37 3 (zt3_37 h) := zTab.mk (ret := (some .int)) (bl := xk3_37) (by decide +kernel) (by decide +kernel) rfl rfl
def zt3_38 (h : Nat) : ZB := [(0, [zf_ic (-1), zf_ist 2, zf_ic 0, zf_ist 3], 4),
  (4, [zf_ild 3, zf_ild 1, zf_ic2 .ge 87, zf_ald 0, zf_getR 3 12, zf_ild 3, zf_aldI 100, zf_ist 4, zf_ild 4, zf_ic 1000, zf_div, zf_ist 5, zf_ald 0, zf_getR 3 11, zf_ild 5, zf_aldI 100, zf_if .ge 51, zf_ald 0, zf_getR 3 11, zf_ild 5, zf_ild 4, zf_ic 1000, zf_rem, zf_astI, zf_go 78], 51),
  (51, [zf_ild 4, zf_ild 2, zf_ic2 .eq 78, zf_ald 0, zf_getR 3 12, zf_ald 0, zf_getI 3 13, zf_ild 4, zf_astI, zf_ald 0, zf_dup, zf_getI 3 13, zf_ic 1, zf_add, zf_putI 3 13], 78),
  (78, [zf_ild 4, zf_ist 2, zf_inc 3 1, zf_go 4], 87),
  (87, [zf_ret], 88)]
theorem zT3_38 (h : Nat) : zTab h 3 38 6 (zt3_38 h) := zTab.mk (ret := none) (bl := xk3_38) (by decide +kernel) (by decide +kernel) rfl rfl
def zt4_0 (h : Nat) : ZB := [(0, [zf_ald 0, zf_getI 4 10, zf_ic 8, zf_ic2 .ge 31, zf_ald 0, zf_getR 4 9, zf_ald 0, zf_getI 4 10, zf_ild 1, zf_ic 1, zf_add, zf_astI, zf_ald 0, zf_dup, zf_getI 4 10, zf_ic 1, zf_add, zf_putI 4 10], 31),
  (31, [zf_ald 0, zf_getR 4 0, zf_ild 1, zf_inv h 8 0 1, zf_reti], 40)]
theorem zT4_0 (h : Nat) : zTab h 4 0 2 (zt4_0 h) := zTab.mk (ret := (some .int)) (bl := xk4_0) (by decide +kernel) (by decide +kernel) rfl rfl
def zt4_1 (h : Nat) : ZB := [(0, [zf_ald 0, zf_getI 4 3, zf_ic 12, zf_ic2 .lt 17, zf_ald 0, zf_ic 3, zf_ild 3, zf_ic 0, zf_inv h 4 12 3, zf_ret], 17),
  (17, [zf_ald 0, zf_getI 4 3, zf_ic 6, zf_mul, zf_ist 4, zf_ald 0, zf_getR 4 2, zf_ild 4, zf_lld 1, zf_astL, zf_ic 1, zf_ist 5], 37),
  (37, [zf_ild 5, zf_ic 6, zf_ic2 .ge 61, zf_ald 0, zf_getR 4 2, zf_ild 4, zf_ild 5, zf_add, zf_lc 0, zf_astL, zf_inc 5 1, zf_go 37], 61),
  (61, [zf_ald 0, zf_dup, zf_getI 4 3, zf_ic 1, zf_add, zf_putI 4 3, zf_ret], 72)]
theorem zT4_1 (h : Nat) : zTab h 4 1 6 (zt4_1 h) := zTab.mk (ret := none) (bl := xk4_1) (by decide +kernel) (by decide +kernel) rfl rfl
def zt4_2 (h : Nat) : ZB := [(0, [zf_ic 1, zf_ist 1, zf_ic 0, zf_ist 2], 4),
  (4, [zf_ild 2, zf_ald 0, zf_getI 4 10, zf_ic2 .ge 37, zf_ild 1, zf_if .eq 37, zf_ald 0, zf_ild 2, zf_inv h 4 3 1, zf_ic 1, zf_ic2 .ne 29, zf_ic 1, zf_go 30], 29),
  (29, [zf_ic 0], 30),
  (30, [zf_ist 1, zf_inc 2 1, zf_go 4], 37),
  (37, [zf_ild 1, zf_retz], 39)]
theorem zT4_2 (h : Nat) : zTab h 4 2 3 (zt4_2 h) := zTab.mk (ret := (some .boolean)) (bl := xk4_2) (by decide +kernel) (by decide +kernel) rfl rfl
def zt4_3 (h : Nat) : ZB := [(0, [zf_ild 1, zf_if .lt 12, zf_ild 1, zf_ald 0, zf_getI 4 10, zf_ic2 .lt 14], 12),
  (12, [zf_ic (-1), zf_reti], 14),
  (14, [zf_ald 0, zf_ald 0, zf_getR 4 9, zf_ild 1, zf_aldI 100, zf_putI 4 16, zf_ald 0, zf_ic 0, zf_putI 4 17, zf_ald 0, zf_ic 0, zf_inv h 4 10 1, zf_lst 2, zf_ald 0, zf_getI 4 17, zf_if .eq 45, zf_ic (-2), zf_reti], 45),
  (45, [zf_lld 2, zf_lc 0, zf_lcmp, zf_if .eq 55, zf_ic 1, zf_go 56], 55),
  (55, [zf_ic 0], 56),
  (56, [zf_reti], 57)]
theorem zT4_3 (h : Nat) : zTab h 4 3 4 (zt4_3 h) := zTab.mk (ret := (some .int)) (bl := xk4_3) (by decide +kernel) (by decide +kernel) rfl rfl
def zt4_4 (h : Nat) : ZB := [(0, [zf_ald 0, zf_getR 4 0, zf_ald 0, zf_getI 4 16, zf_inv h 8 10 1, zf_ist 2, zf_ild 2, zf_inst h 8 6 1, zf_if .eq 24, zf_ald 0, zf_inv h 4 7 0, zf_retl], 24),
  (24, [zf_ald 0, zf_dup, zf_getI 4 16, zf_ic 1, zf_add, zf_putI 4 16, zf_ild 2, zf_inst h 8 9 1, zf_if .eq 51, zf_ald 0, zf_getR 4 1, zf_ild 2, zf_ic 97, zf_sub, zf_aldL, zf_retl], 51),
  (51, [zf_ild 2, zf_ic 35, zf_ic2 .ne 63, zf_ald 0, zf_getI 4 3, zf_i2l, zf_retl], 63),
  (63, [zf_ild 1, zf_ic 3, zf_ic2 .ge 79, zf_ald 0, zf_ild 2, zf_ild 1, zf_ic 1, zf_add, zf_inv h 4 6 2, zf_go 80], 79),
  (79, [zf_lc 0], 80),
  (80, [zf_retl], 81)]
theorem zT4_4 (h : Nat) : zTab h 4 4 3 (zt4_4 h) := zTab.mk (ret := (some .long)) (bl := xk4_4) (by decide +kernel) (by decide +kernel) rfl rfl
def zt4_5 (h : Nat) : ZB := [(0, [zf_ald 0, zf_ic 0, zf_putI 4 13, zf_ald 0, zf_ic (-1), zf_putI 4 14, zf_ald 0, zf_ic 0, zf_putI 4 15, zf_ret], 16)]
theorem zT4_5 (h : Nat) : zTab h 4 5 1 (zt4_5 h) := zTab.mk (ret := none) (bl := xk4_5) (by decide +kernel) (by decide +kernel) rfl rfl
def zt4_6 (h : Nat) : ZB := [(0, [zf_ild 1, zf_ic 40, zf_ic2 .ne 24, zf_ald 0, zf_ild 2, zf_inv h 4 10 1, zf_lst 3, zf_ald 0, zf_dup, zf_getI 4 16, zf_ic 1, zf_add, zf_putI 4 16, zf_lld 3, zf_retl], 24),
  (24, [zf_ald 0, zf_ild 2, zf_inv h 4 4 1, zf_lst 3, zf_ild 1, zf_ic 45, zf_ic2 .ne 39, zf_lld 3, zf_lneg, zf_retl], 39),
  (39, [zf_ild 1, zf_ic 64, zf_ic2 .ne 53, zf_ald 0, zf_lld 3, zf_inv h 4 11 1, zf_go 58], 53),
  (53, [zf_ald 0, zf_lld 3, zf_inv h 4 16 1], 58),
  (58, [zf_ist 5, zf_ild 5, zf_ic (-1), zf_ic2 .ne 68, zf_lc 0, zf_retl], 68),
  (68, [zf_ild 1, zf_ic 64, zf_ic2 .ne 84, zf_ald 0, zf_getR 4 2, zf_ild 5, zf_aldL, zf_go 91], 84),
  (84, [zf_ald 0, zf_getR 4 5, zf_ild 5, zf_aldL], 91),
  (91, [zf_retl], 92)]
theorem zT4_6 (h : Nat) : zTab h 4 6 6 (zt4_6 h) := zTab.mk (ret := (some .long)) (bl := xk4_6) (by decide +kernel) (by decide +kernel) rfl rfl
def zt4_7 (h : Nat) : ZB := [(0, [zf_lc 0, zf_lst 1, zf_ic 0, zf_ist 3], 4),
  (4, [zf_ild 3, zf_ic 4, zf_ic2 .ge 65, zf_ald 0, zf_getR 4 0, zf_ald 0, zf_getI 4 16, zf_inv h 8 10 1, zf_inst h 8 6 1, zf_if .eq 65, zf_lld 1, zf_lc 10, zf_lmul, zf_ald 0, zf_getR 4 0, zf_ald 0, zf_getI 4 16, zf_inv h 8 10 1, zf_i2l, zf_ladd, zf_lc 48, zf_lsub, zf_lst 1, zf_ald 0, zf_dup, zf_getI 4 16, zf_ic 1, zf_add, zf_putI 4 16, zf_inc 3 1, zf_go 4], 65),
  (65, [zf_lld 1, zf_retl], 67)]
theorem zT4_7 (h : Nat) : zTab h 4 7 4 (zt4_7 h) := zTab.mk (ret := (some .long)) (bl := xk4_7) (by decide +kernel) (by decide +kernel) rfl rfl
def zt4_8 (h : Nat) : ZB := [(0, [zf_lld 3, zf_lc 0, zf_lcmp, zf_if .ne 13, zf_ald 0, zf_ic 1, zf_inv h 4 21 1, zf_lc 0, zf_retl], 13),
  (13, [zf_ild 5, zf_if .eq 24, zf_lld 1, zf_lld 3, zf_ldiv, zf_go 27], 24),
  (24, [zf_lld 1, zf_lld 3, zf_lrem], 27),
  (27, [zf_retl], 28)]
theorem zT4_8 (h : Nat) : zTab h 4 8 6 (zt4_8 h) := zTab.mk (ret := (some .long)) (bl := xk4_8) (by decide +kernel) (by decide +kernel) rfl rfl
def zt4_9 (h : Nat) : ZB := [(0, [zf_ild 1, zf_sw 43 0 2 [28, 33, 38]], 28),
  (28, [zf_ald 0, zf_getI 4 13, zf_reti], 33),
  (33, [zf_ald 0, zf_getI 4 14, zf_reti], 38),
  (38, [zf_ald 0, zf_getI 4 15, zf_reti], 43),
  (43, [zf_ic (-1), zf_reti], 45)]
theorem zT4_9 (h : Nat) : zTab h 4 9 2 (zt4_9 h) := zTab.mk (ret := (some .int)) (bl := xk4_9) (by decide +kernel) (by decide +kernel) rfl rfl
def zt4_10 (h : Nat) : ZB := [(0, [zf_ald 0, zf_ild 1, zf_inv h 4 26 1, zf_lst 2, zf_ald 0, zf_getR 4 0, zf_ald 0, zf_getI 4 16, zf_inv h 8 10 1, zf_ist 4, zf_ild 4, zf_ic 60, zf_ic2 .eq 35, zf_ild 4, zf_ic 61, zf_ic2 .eq 35, zf_lld 2, zf_retl], 35),
  (35, [zf_ald 0, zf_dup, zf_getI 4 16, zf_ic 1, zf_add, zf_putI 4 16, zf_ald 0, zf_ild 1, zf_inv h 4 26 1, zf_lst 5, zf_ild 4, zf_ic 60, zf_ic2 .ne 74, zf_lld 2, zf_lld 5, zf_lcmp, zf_if .ge 70, zf_ic 1, zf_go 86], 70),
  (70, [zf_ic 0, zf_go 86], 74),
  (74, [zf_lld 2, zf_lld 5, zf_lcmp, zf_if .ne 85, zf_ic 1, zf_go 86], 85),
  (85, [zf_ic 0], 86),
  (86, [zf_ist 7, zf_ild 7, zf_if .eq 97, zf_lc 1, zf_go 98], 97),
  (97, [zf_lc 0], 98),
  (98, [zf_retl], 99)]
theorem zT4_10 (h : Nat) : zTab h 4 10 8 (zt4_10 h) := zTab.mk (ret := (some .long)) (bl := xk4_10) (by decide +kernel) (by decide +kernel) rfl rfl
def zt4_11 (h : Nat) : ZB := [(0, [zf_ald 0, zf_getR 4 0, zf_ald 0, zf_getI 4 16, zf_ic 1, zf_add, zf_inv h 8 10 1, zf_ic 48, zf_sub, zf_ist 3, zf_ald 0, zf_dup, zf_getI 4 16, zf_ic 2, zf_add, zf_putI 4 16, zf_lld 1, zf_lc 0, zf_lcmp, zf_if .lt 53, zf_lld 1, zf_ald 0, zf_getI 4 3, zf_i2l, zf_lcmp, zf_if .ge 53, zf_ild 3, zf_if .lt 53, zf_ild 3, zf_ic 6, zf_ic2 .lt 60], 53),
  (53, [zf_ald 0, zf_ic 2, zf_inv h 4 21 1, zf_ic (-1), zf_reti], 60),
  (60, [zf_lld 1, zf_l2i, zf_ic 6, zf_mul, zf_ild 3, zf_add, zf_reti], 68)]
theorem zT4_11 (h : Nat) : zTab h 4 11 4 (zt4_11 h) := zTab.mk (ret := (some .int)) (bl := xk4_11) (by decide +kernel) (by decide +kernel) rfl rfl
def zt4_12 (h : Nat) : ZB := [(0, [zf_ald 0, zf_ild 1, zf_putI 4 13, zf_ald 0, zf_ild 2, zf_putI 4 14, zf_ald 0, zf_ild 3, zf_putI 4 15, zf_ret], 16)]
theorem zT4_12 (h : Nat) : zTab h 4 12 4 (zt4_12 h) := zTab.mk (ret := none) (bl := xk4_12) (by decide +kernel) (by decide +kernel) rfl rfl
def zt4_13 (h : Nat) : ZB := [(0, [zf_ic 0, zf_ist 2], 2),
  (2, [zf_ild 2, zf_ald 0, zf_getR 4 1, zf_len, zf_ic2 .ge 24, zf_ald 0, zf_getR 4 1, zf_ild 2, zf_lc 0, zf_astL, zf_inc 2 1, zf_go 2], 24),
  (24, [zf_ald 0, zf_ic 0, zf_putI 4 8, zf_ald 0, zf_ic 0, zf_putI 4 10, zf_ald 0, zf_inv h 4 5 0, zf_ald 0, zf_ild 1, zf_putI 4 11, zf_ald 0, zf_ic 0, zf_putZ 4 12, zf_ald 0, zf_ic 0, zf_ic 400, zf_ic 0, zf_ic 0, zf_inv h 4 30 4, zf_ald 0, zf_getI 4 12, zf_if .eq 71, zf_ald 0, zf_inv h 4 5 0, zf_ic 2, zf_reti], 71),
  (71, [zf_ald 0, zf_getI 4 13, zf_if .ne 82, zf_ic 0, zf_go 83], 82),
  (82, [zf_ic 1], 83),
  (83, [zf_reti], 84)]
theorem zT4_13 (h : Nat) : zTab h 4 13 3 (zt4_13 h) := zTab.mk (ret := (some .int)) (bl := xk4_13) (by decide +kernel) (by decide +kernel) rfl rfl
def zt4_15 (h : Nat) : ZB := [(0, [zf_ald 0, zf_getI 4 12, zf_if .ne 18, zf_ald 0, zf_getI 4 13, zf_if .ne 18, zf_ic 1, zf_go 19], 18),
  (18, [zf_ic 0], 19),
  (19, [zf_retz], 20)]
theorem zT4_15 (h : Nat) : zTab h 4 15 1 (zt4_15 h) := zTab.mk (ret := (some .boolean)) (bl := xk4_15) (by decide +kernel) (by decide +kernel) rfl rfl
def zt4_16 (h : Nat) : ZB := [(0, [zf_lld 1, zf_lc 0, zf_lcmp, zf_if .lt 16, zf_lld 1, zf_ald 0, zf_getI 4 6, zf_i2l, zf_lcmp, zf_if .lt 23], 16),
  (16, [zf_ald 0, zf_ic 2, zf_inv h 4 21 1, zf_ic (-1), zf_reti], 23),
  (23, [zf_lld 1, zf_l2i, zf_reti], 26)]
theorem zT4_16 (h : Nat) : zTab h 4 16 3 (zt4_16 h) := zTab.mk (ret := (some .int)) (bl := xk4_16) (by decide +kernel) (by decide +kernel) rfl rfl
def zt4_17 (h : Nat) : ZB := [(0, [zf_lld 1, zf_lc 0, zf_lcmp, zf_if .lt 14, zf_lld 1, zf_lc 20, zf_lcmp, zf_if .le 22], 14),
  (14, [zf_ald 0, zf_ic 3, zf_ild 3, zf_ic 0, zf_inv h 4 12 3, zf_ret], 22),
  (22, [zf_ald 0, zf_lld 1, zf_l2i, zf_putI 4 6, zf_ic 0, zf_ist 4], 31),
  (31, [zf_ild 4, zf_ic 20, zf_ic2 .ge 52, zf_ald 0, zf_getR 4 5, zf_ild 4, zf_lc 0, zf_astL, zf_inc 4 1, zf_go 31], 52),
  (52, [zf_ret], 53)]
theorem zT4_17 (h : Nat) : zTab h 4 17 5 (zt4_17 h) := zTab.mk (ret := none) (bl := xk4_17) (by decide +kernel) (by decide +kernel) rfl rfl
def zt4_18 (h : Nat) : ZB := [(0, [zf_ald 0, zf_ild 1, zf_inv h 4 4 1, zf_lst 2, zf_ald 0, zf_getR 4 0, zf_ald 0, zf_getI 4 16, zf_inv h 8 10 1, zf_ist 4, zf_ic 0, zf_ist 5], 22),
  (22, [zf_ild 5, zf_ic 400, zf_ic2 .ge 121, zf_ild 4, zf_ic 42, zf_ic2 .eq 51, zf_ild 4, zf_ic 47, zf_ic2 .eq 51, zf_ild 4, zf_ic 37, zf_ic2 .ne 121], 51),
  (51, [zf_ald 0, zf_dup, zf_getI 4 16, zf_ic 1, zf_add, zf_putI 4 16, zf_ald 0, zf_ild 1, zf_inv h 4 4 1, zf_lst 6, zf_ild 4, zf_ic 42, zf_ic2 .ne 82, zf_lld 2, zf_lld 6, zf_lmul, zf_go 101], 82),
  (82, [zf_ald 0, zf_lld 2, zf_lld 6, zf_ild 4, zf_ic 47, zf_ic2 .ne 97, zf_ic 1, zf_go 98], 97),
  (97, [zf_ic 0], 98),
  (98, [zf_inv h 4 8 3], 101),
  (101, [zf_lst 2, zf_ald 0, zf_getR 4 0, zf_ald 0, zf_getI 4 16, zf_inv h 8 10 1, zf_ist 4, zf_inc 5 1, zf_go 22], 121),
  (121, [zf_lld 2, zf_retl], 123)]
theorem zT4_18 (h : Nat) : zTab h 4 18 8 (zt4_18 h) := zTab.mk (ret := (some .long)) (bl := xk4_18) (by decide +kernel) (by decide +kernel) rfl rfl
def zt4_19 (h : Nat) : ZB := [(0, [zf_ald 0, zf_getI 4 8, zf_ic 40, zf_ic2 .ge 29, zf_ald 0, zf_getR 4 7, zf_ald 0, zf_getI 4 8, zf_lld 1, zf_astL, zf_ald 0, zf_dup, zf_getI 4 8, zf_ic 1, zf_add, zf_putI 4 8], 29),
  (29, [zf_ret], 30)]
theorem zT4_19 (h : Nat) : zTab h 4 19 3 (zt4_19 h) := zTab.mk (ret := none) (bl := xk4_19) (by decide +kernel) (by decide +kernel) rfl rfl
def zt4_20 (h : Nat) : ZB := [(0, [zf_ald 0, zf_getR 4 1, zf_ic 25, zf_aldL, zf_lst 2, zf_ic 0, zf_ist 4], 11),
  (11, [zf_ild 4, zf_ald 0, zf_getI 4 3, zf_ic2 .ge 52, zf_ald 0, zf_inv h 4 15 0, zf_if .eq 52, zf_ald 0, zf_getR 4 1, zf_ic 25, zf_ild 4, zf_i2l, zf_astL, zf_ald 0, zf_ild 1, zf_ic 1, zf_add, zf_ild 1, zf_inv h 4 22 2, zf_pop2, zf_inc 4 1, zf_go 11], 52),
  (52, [zf_ald 0, zf_inv h 4 15 0, zf_if .eq 67, zf_ald 0, zf_getR 4 1, zf_ic 25, zf_lld 2, zf_astL], 67),
  (67, [zf_ald 0, zf_getR 4 0, zf_ild 1, zf_inv h 8 0 1, zf_reti], 76)]
theorem zT4_20 (h : Nat) : zTab h 4 20 5 (zt4_20 h) := zTab.mk (ret := (some .int)) (bl := xk4_20) (by decide +kernel) (by decide +kernel) rfl rfl
def zt4_21 (h : Nat) : ZB := [(0, [zf_ald 0, zf_getI 4 17, zf_if .ne 12, zf_ald 0, zf_ild 1, zf_putI 4 17], 12),
  (12, [zf_ret], 13)]
theorem zT4_21 (h : Nat) : zTab h 4 21 2 (zt4_21 h) := zTab.mk (ret := none) (bl := xk4_21) (by decide +kernel) (by decide +kernel) rfl rfl
def zt4_22 (h : Nat) : ZB := [(0, [zf_ald 0, zf_ild 1, zf_putI 4 16, zf_ald 0, zf_ic 0, zf_putI 4 17, zf_ald 0, zf_ic 0, zf_inv h 4 10 1, zf_lst 3, zf_ald 0, zf_getI 4 17, zf_if .eq 33, zf_ald 0, zf_ald 0, zf_getI 4 17, zf_ild 2, zf_ic 0, zf_inv h 4 12 3], 33),
  (33, [zf_lld 3, zf_retl], 35)]
theorem zT4_22 (h : Nat) : zTab h 4 22 5 (zt4_22 h) := zTab.mk (ret := (some .long)) (bl := xk4_22) (by decide +kernel) (by decide +kernel) rfl rfl
def zt4_23 (h : Nat) : ZB := [(0, [zf_ald 0, zf_ild 1, zf_ic 1, zf_add, zf_putI 4 16, zf_ald 0, zf_ic 0, zf_putI 4 17, zf_ald 0, zf_ald 0, zf_ic 0, zf_inv h 4 4 1, zf_inv h 4 11 1, zf_ist 2, zf_ald 0, zf_inv h 4 29 0, zf_lst 3, zf_ald 0, zf_getI 4 17, zf_if .eq 47, zf_ald 0, zf_ald 0, zf_getI 4 17, zf_ild 1, zf_ic 0, zf_inv h 4 12 3, zf_go 59], 47),
  (47, [zf_ild 2, zf_ic (-1), zf_ic2 .eq 59, zf_ald 0, zf_getR 4 2, zf_ild 2, zf_lld 3, zf_astL], 59),
  (59, [zf_ald 0, zf_getI 4 16, zf_ic 1, zf_add, zf_reti], 66)]
theorem zT4_23 (h : Nat) : zTab h 4 23 5 (zt4_23 h) := zTab.mk (ret := (some .int)) (bl := xk4_23) (by decide +kernel) (by decide +kernel) rfl rfl
def zt4_24 (h : Nat) : ZB := [(0, [zf_ald 0, zf_ild 1, zf_ic 1, zf_add, zf_putI 4 16, zf_ald 0, zf_ic 0, zf_putI 4 17, zf_ald 0, zf_ald 0, zf_ic 0, zf_inv h 4 4 1, zf_inv h 4 16 1, zf_ist 2, zf_ald 0, zf_inv h 4 29 0, zf_lst 3, zf_ald 0, zf_getI 4 17, zf_if .eq 47, zf_ald 0, zf_ald 0, zf_getI 4 17, zf_ild 1, zf_ic 0, zf_inv h 4 12 3, zf_go 59], 47),
  (47, [zf_ild 2, zf_ic (-1), zf_ic2 .eq 59, zf_ald 0, zf_getR 4 5, zf_ild 2, zf_lld 3, zf_astL], 59),
  (59, [zf_ald 0, zf_getI 4 16, zf_ic 1, zf_add, zf_reti], 66)]
theorem zT4_24 (h : Nat) : zTab h 4 24 5 (zt4_24 h) := zTab.mk (ret := (some .int)) (bl := xk4_24) (by decide +kernel) (by decide +kernel) rfl rfl
def zt4_25 (h : Nat) : ZB := [(0, [zf_ald 0, zf_getI 4 11, zf_if .gt 14, zf_ald 0, zf_ic 1, zf_putZ 4 12, zf_ic 0, zf_retz], 14),
  (14, [zf_ald 0, zf_dup, zf_getI 4 11, zf_ic 1, zf_sub, zf_putI 4 11, zf_ic 1, zf_retz], 26)]
theorem zT4_25 (h : Nat) : zTab h 4 25 1 (zt4_25 h) := zTab.mk (ret := (some .boolean)) (bl := xk4_25) (by decide +kernel) (by decide +kernel) rfl rfl
def zt4_26 (h : Nat) : ZB := [(0, [zf_ald 0, zf_ild 1, zf_inv h 4 18 1, zf_lst 2, zf_ald 0, zf_getR 4 0, zf_ald 0, zf_getI 4 16, zf_inv h 8 10 1, zf_ist 4, zf_ic 0, zf_ist 5], 22),
  (22, [zf_ild 5, zf_ic 400, zf_ic2 .ge 99, zf_ild 4, zf_ic 43, zf_ic2 .eq 44, zf_ild 4, zf_ic 45, zf_ic2 .ne 99], 44),
  (44, [zf_ald 0, zf_dup, zf_getI 4 16, zf_ic 1, zf_add, zf_putI 4 16, zf_ald 0, zf_ild 1, zf_inv h 4 18 1, zf_lst 6, zf_ild 4, zf_ic 43, zf_ic2 .ne 75, zf_lld 2, zf_lld 6, zf_ladd, zf_go 79], 75),
  (75, [zf_lld 2, zf_lld 6, zf_lsub], 79),
  (79, [zf_lst 2, zf_ald 0, zf_getR 4 0, zf_ald 0, zf_getI 4 16, zf_inv h 8 10 1, zf_ist 4, zf_inc 5 1, zf_go 22], 99),
  (99, [zf_lld 2, zf_retl], 101)]
theorem zT4_26 (h : Nat) : zTab h 4 26 8 (zt4_26 h) := zTab.mk (ret := (some .long)) (bl := xk4_26) (by decide +kernel) (by decide +kernel) rfl rfl
def zt4_27 (h : Nat) : ZB := [(0, [zf_ald 0, zf_ald 1, zf_putR 4 0, zf_ald 0, zf_ic 0, zf_putI 4 8, zf_ald 0, zf_ic 0, zf_putI 4 10, zf_ald 0, zf_inv h 4 5 0, zf_ret], 20)]
theorem zT4_27 (h : Nat) : zTab h 4 27 2 (zt4_27 h) := zTab.mk (ret := none) (bl := xk4_27) (by decide +kernel) (by decide +kernel) rfl rfl
def zt4_28 (h : Nat) : ZB := [(0, [zf_ald 0, zf_ic 12, zf_putI 4 3, zf_ic 0, zf_ist 3], 8),
  (8, [zf_ild 3, zf_ic 12, zf_ic2 .ge 200, zf_ild 3, zf_ic 6, zf_mul, zf_ist 4, zf_ild 3, zf_ald 1, zf_getR 0 11, zf_getI 7 2, zf_ic2 .ge 35, zf_ic 1, zf_go 36], 35),
  (35, [zf_ic 0], 36),
  (36, [zf_ist 5, zf_ild 5, zf_if .eq 58, zf_ald 2, zf_getI 1 0, zf_ald 1, zf_getI 0 0, zf_ic2 .ne 58, zf_ic 1, zf_go 59], 58),
  (58, [zf_ic 0], 59),
  (59, [zf_ist 6, zf_ald 0, zf_getR 4 2, zf_ild 4, zf_ald 1, zf_getR 0 11, zf_ild 3, zf_ic 0, zf_inv h 7 1 2, zf_i2l, zf_astL, zf_ald 0, zf_getR 4 2, zf_ild 4, zf_ic 1, zf_add, zf_ald 1, zf_getR 0 11, zf_ild 3, zf_ic 1, zf_inv h 7 1 2, zf_i2l, zf_astL, zf_ald 0, zf_getR 4 2, zf_ild 4, zf_ic 2, zf_add, zf_ald 1, zf_getR 0 11, zf_ild 3, zf_ic 2, zf_inv h 7 1 2, zf_i2l, zf_astL, zf_ald 0, zf_getR 4 2, zf_ild 4, zf_ic 3, zf_add, zf_ald 1, zf_ild 3, zf_inv h 0 12 1, zf_if .eq 145, zf_ald 1, zf_getR 0 11, zf_ild 3, zf_ic 3, zf_inv h 7 1 2, zf_i2l, zf_go 148], 145),
  (145, [zf_lc (-1)], 148),
  (148, [zf_astL, zf_ald 0, zf_getR 4 2, zf_ild 4, zf_ic 4, zf_add, zf_ald 1, zf_getR 0 11, zf_ild 3, zf_ic 4, zf_inv h 7 1 2, zf_i2l, zf_astL, zf_ald 0, zf_getR 4 2, zf_ild 4, zf_ic 5, zf_add, zf_ild 6, zf_if .eq 190, zf_ald 2, zf_ild 3, zf_inv h 1 5 1, zf_i2l, zf_go 193], 190),
  (190, [zf_lc (-1)], 193),
  (193, [zf_astL, zf_inc 3 1, zf_go 8], 200),
  (200, [zf_ret], 201)]
theorem zT4_28 (h : Nat) : zTab h 4 28 7 (zt4_28 h) := zTab.mk (ret := none) (bl := xk4_28) (by decide +kernel) (by decide +kernel) rfl rfl
def zt4_29 (h : Nat) : ZB := [(0, [zf_ald 0, zf_dup, zf_getI 4 16, zf_ic 1, zf_add, zf_putI 4 16, zf_ald 0, zf_ic 0, zf_inv h 4 10 1, zf_retl], 16)]
theorem zT4_29 (h : Nat) : zTab h 4 29 1 (zt4_29 h) := zTab.mk (ret := (some .long)) (bl := xk4_29) (by decide +kernel) (by decide +kernel) rfl rfl
def zt4_30 (h : Nat) : ZB := [(0, [zf_ild 1, zf_ist 5, zf_ic 0, zf_ist 6], 6),
  (6, [zf_ild 6, zf_ic 400, zf_ic2 .gt 83, zf_ild 5, zf_ild 2, zf_ic2 .ge 83, zf_ald 0, zf_inv h 4 15 0, zf_if .eq 83, zf_ild 4, zf_ic 10, zf_ic2 .ge 83, zf_ald 0, zf_getR 4 0, zf_ild 5, zf_inv h 8 10 1, zf_ist 7, zf_ild 7, zf_ic (-1), zf_ic2 .ne 52, zf_ret], 52),
  (52, [zf_ild 7, zf_ic 10, zf_ic2 .ne 66, zf_ild 5, zf_ic 1, zf_add, zf_go 75], 66),
  (66, [zf_ald 0, zf_ild 5, zf_ild 3, zf_ild 4, zf_inv h 4 38 3], 75),
  (75, [zf_ist 5, zf_inc 6 1, zf_go 6], 83),
  (83, [zf_ret], 84)]
theorem zT4_30 (h : Nat) : zTab h 4 30 8 (zt4_30 h) := zTab.mk (ret := none) (bl := xk4_30) (by decide +kernel) (by decide +kernel) rfl rfl
def zt4_31 (h : Nat) : ZB := [(0, [zf_ald 0, zf_getI 4 3, zf_ist 4, zf_ild 3, zf_ic 12, zf_mul, zf_ic 6, zf_mul, zf_ist 5, zf_ald 0, zf_getR 4 2, zf_ic 0, zf_ald 0, zf_getR 4 4, zf_ild 5, zf_ic 72, zf_copy, zf_ald 0, zf_ild 1, zf_ild 2, zf_ild 3, zf_inv h 4 32 3, zf_ist 6, zf_ald 0, zf_getI 4 13, zf_if .eq 76, zf_ald 0, zf_getI 4 12, zf_if .ne 76, zf_ald 0, zf_ild 4, zf_putI 4 3, zf_ald 0, zf_getR 4 4, zf_ild 5, zf_ald 0, zf_getR 4 2, zf_ic 0, zf_ic 72, zf_copy], 76),
  (76, [zf_ild 6, zf_reti], 79)]
theorem zT4_31 (h : Nat) : zTab h 4 31 7 (zt4_31 h) := zTab.mk (ret := (some .int)) (bl := xk4_31) (by decide +kernel) (by decide +kernel) rfl rfl
def zt4_32 (h : Nat) : ZB := [(0, [zf_ald 0, zf_ild 1, zf_ic 1, zf_add, zf_ald 0, zf_getR 4 0, zf_ild 1, zf_inv h 8 1 1, zf_ild 2, zf_ild 3, zf_ic 1, zf_add, zf_inv h 4 30 4, zf_ald 0, zf_getR 4 0, zf_ild 1, zf_inv h 8 1 1, zf_ic 1, zf_add, zf_reti], 30)]
theorem zT4_32 (h : Nat) : zTab h 4 32 4 (zt4_32 h) := zTab.mk (ret := (some .int)) (bl := xk4_32) (by decide +kernel) (by decide +kernel) rfl rfl
def zt4_33 (h : Nat) : ZB := [(0, [zf_ald 0, zf_getR 4 0, zf_ald 0, zf_getR 4 0, zf_ild 1, zf_inv h 8 10 1, zf_inv h 8 4 1, zf_ist 4, zf_ild 4, zf_ic (-1), zf_ic2 .ne 34, zf_ald 0, zf_ic 6, zf_ild 1, zf_ic 0, zf_inv h 4 12 3, zf_go 60], 34),
  (34, [zf_ild 2, zf_ic 2, zf_ic2 .lt 49, zf_ald 0, zf_ic 5, zf_ild 1, zf_ic 0, zf_inv h 4 12 3, zf_go 60], 49),
  (49, [zf_ald 0, zf_ild 4, zf_ild 2, zf_ic 1, zf_add, zf_ild 3, zf_inv h 4 32 3, zf_pop], 60),
  (60, [zf_ild 1, zf_ic 2, zf_add, zf_reti], 64)]
theorem zT4_33 (h : Nat) : zTab h 4 33 5 (zt4_33 h) := zTab.mk (ret := (some .int)) (bl := xk4_33) (by decide +kernel) (by decide +kernel) rfl rfl
def zt4_34 (h : Nat) : ZB := [(0, [zf_ald 0, zf_ild 1, zf_ic 1, zf_add, zf_ild 1, zf_inv h 4 22 2, zf_lst 4, zf_ald 0, zf_getI 4 16, zf_ist 6, zf_ald 0, zf_getR 4 0, zf_ild 6, zf_inv h 8 1 1, zf_ic 1, zf_add, zf_ist 7, zf_ald 0, zf_getR 4 0, zf_ild 7, zf_inv h 8 10 1, zf_ic 123, zf_ic2 .ne 47, zf_ic 1, zf_go 48], 47),
  (47, [zf_ic 0], 48),
  (48, [zf_ist 8, zf_ald 0, zf_inv h 4 15 0, zf_if .eq 76, zf_lld 4, zf_lc 0, zf_lcmp, zf_if .eq 76, zf_ald 0, zf_ild 6, zf_ild 2, zf_ild 3, zf_inv h 4 32 3, zf_pop, zf_go 97], 76),
  (76, [zf_ald 0, zf_inv h 4 15 0, zf_if .eq 97, zf_ild 8, zf_if .eq 97, zf_ald 0, zf_ild 7, zf_ild 2, zf_ild 3, zf_inv h 4 32 3, zf_pop], 97),
  (97, [zf_ild 8, zf_if .eq 116, zf_ald 0, zf_getR 4 0, zf_ild 7, zf_inv h 8 1 1, zf_ic 1, zf_add, zf_go 118], 116),
  (116, [zf_ild 7], 118),
  (118, [zf_reti], 119)]
theorem zT4_34 (h : Nat) : zTab h 4 34 9 (zt4_34 h) := zTab.mk (ret := (some .int)) (bl := xk4_34) (by decide +kernel) (by decide +kernel) rfl rfl
def zt4_35 (h : Nat) : ZB := [(0, [zf_ald 0, zf_ild 1, zf_ic 1, zf_add, zf_ild 2, zf_ild 3, zf_inv h 4 32 3, zf_ist 4, zf_ald 0, zf_getI 4 13, zf_ist 5, zf_ald 0, zf_getI 4 14, zf_ist 6, zf_ald 0, zf_getI 4 15, zf_ist 7, zf_ald 0, zf_inv h 4 5 0, zf_ald 0, zf_getI 4 12, zf_if .ne 49, zf_ald 0, zf_ild 4, zf_ild 2, zf_ild 3, zf_inv h 4 32 3, zf_pop], 49),
  (49, [zf_ald 0, zf_getI 4 13, zf_if .ne 66, zf_ald 0, zf_ild 5, zf_ild 6, zf_ild 7, zf_inv h 4 12 3], 66),
  (66, [zf_ald 0, zf_getR 4 0, zf_ild 4, zf_inv h 8 1 1, zf_ic 1, zf_add, zf_reti], 78)]
theorem zT4_35 (h : Nat) : zTab h 4 35 8 (zt4_35 h) := zTab.mk (ret := (some .int)) (bl := xk4_35) (by decide +kernel) (by decide +kernel) rfl rfl
def zt4_36 (h : Nat) : ZB := [(0, [zf_ic 1, zf_ist 4, zf_ild 1, zf_ist 5, zf_ic 0, zf_ist 6], 9),
  (9, [zf_ild 6, zf_ic 300, zf_ic2 .gt 108, zf_ild 4, zf_if .eq 108, zf_ald 0, zf_inv h 4 15 0, zf_if .eq 108, zf_ald 0, zf_inv h 4 25 0, zf_ist 4, zf_ild 4, zf_if .eq 86, zf_ald 0, zf_ild 1, zf_ic 1, zf_add, zf_ild 1, zf_inv h 4 22 2, zf_lst 7, zf_ald 0, zf_getR 4 0, zf_ald 0, zf_getI 4 16, zf_inv h 8 1 1, zf_ic 1, zf_add, zf_ist 5, zf_ald 0, zf_inv h 4 15 0, zf_if .eq 83, zf_lld 7, zf_lc 0, zf_lcmp, zf_if .eq 83, zf_ic 1, zf_go 84], 83),
  (83, [zf_ic 0], 84),
  (84, [zf_ist 4], 86),
  (86, [zf_ild 4, zf_if .eq 102, zf_ald 0, zf_ald 0, zf_getI 4 16, zf_ild 2, zf_ild 3, zf_inv h 4 32 3, zf_pop], 102),
  (102, [zf_inc 6 1, zf_go 9], 108),
  (108, [zf_ild 5, zf_reti], 111)]
theorem zT4_36 (h : Nat) : zTab h 4 36 9 (zt4_36 h) := zTab.mk (ret := (some .int)) (bl := xk4_36) (by decide +kernel) (by decide +kernel) rfl rfl
def zt4_37 (h : Nat) : ZB := [(0, [zf_ald 0, zf_getR 4 0, zf_ild 1, zf_inv h 8 10 1, zf_ist 2, zf_ild 2, zf_inst h 8 9 1, zf_ist 3, zf_ald 0, zf_ild 3, zf_if .eq 25, zf_ild 1, zf_ic 2, zf_add, zf_go 28], 25),
  (25, [zf_ild 1, zf_ic 1, zf_add], 28),
  (28, [zf_ild 1, zf_inv h 4 22 2, zf_lst 4, zf_ald 0, zf_inv h 4 15 0, zf_if .eq 115, zf_ild 3, zf_if .eq 59, zf_ald 0, zf_getR 4 1, zf_ild 2, zf_ic 97, zf_sub, zf_lld 4, zf_astL, zf_go 115], 59),
  (59, [zf_ild 2, zf_ic 33, zf_ic2 .ne 74, zf_ald 0, zf_lld 4, zf_inv h 4 19 1, zf_go 115], 74),
  (74, [zf_ild 2, zf_ic 94, zf_ic2 .ne 92, zf_ald 0, zf_ic 4, zf_ild 1, zf_lld 4, zf_l2i, zf_inv h 4 12 3, zf_go 115], 92),
  (92, [zf_ild 2, zf_ic 43, zf_ic2 .ne 108, zf_ald 0, zf_lld 4, zf_ild 1, zf_inv h 4 1 2, zf_go 115], 108),
  (108, [zf_ald 0, zf_lld 4, zf_ild 1, zf_inv h 4 17 2], 115),
  (115, [zf_ald 0, zf_getI 4 16, zf_ic 1, zf_add, zf_reti], 122)]
theorem zT4_37 (h : Nat) : zTab h 4 37 6 (zt4_37 h) := zTab.mk (ret := (some .int)) (bl := xk4_37) (by decide +kernel) (by decide +kernel) rfl rfl
def zt4_38 (h : Nat) : ZB := [(0, [zf_ald 0, zf_getR 4 0, zf_ild 1, zf_inv h 8 10 1, zf_ist 4, zf_ild 4, zf_ic 58, zf_ic2 .ne 30, zf_ald 0, zf_getR 4 0, zf_ild 1, zf_ic 2, zf_add, zf_inv h 8 1 1, zf_ic 1, zf_add, zf_reti], 30),
  (30, [zf_ild 4, zf_ic 42, zf_ic2 .ne 45, zf_ald 0, zf_ild 1, zf_ild 2, zf_ild 3, zf_inv h 4 36 3, zf_reti], 45),
  (45, [zf_ald 0, zf_inv h 4 25 0, zf_if .ne 54, zf_ild 1, zf_reti], 54),
  (54, [zf_ild 4, zf_inst h 8 7 1, zf_if .eq 70, zf_ald 0, zf_ild 1, zf_ild 2, zf_ild 3, zf_inv h 4 33 3, zf_reti], 70),
  (70, [zf_ild 4, zf_lk 188 [(38, 176), (39, 170), (63, 140), (64, 164), (91, 148), (124, 182), (126, 156)]], 140),
  (140, [zf_ald 0, zf_ild 1, zf_ild 2, zf_ild 3, zf_inv h 4 34 3, zf_reti], 148),
  (148, [zf_ald 0, zf_ild 1, zf_ild 2, zf_ild 3, zf_inv h 4 31 3, zf_reti], 156),
  (156, [zf_ald 0, zf_ild 1, zf_ild 2, zf_ild 3, zf_inv h 4 35 3, zf_reti], 164),
  (164, [zf_ald 0, zf_ild 1, zf_inv h 4 23 1, zf_reti], 170),
  (170, [zf_ald 0, zf_ild 1, zf_inv h 4 24 1, zf_reti], 176),
  (176, [zf_ald 0, zf_ild 1, zf_inv h 4 0 1, zf_reti], 182),
  (182, [zf_ald 0, zf_ild 1, zf_inv h 4 20 1, zf_reti], 188),
  (188, [zf_ald 0, zf_ild 1, zf_inv h 4 37 1, zf_reti], 194)]
theorem zT4_38 (h : Nat) : zTab h 4 38 5 (zt4_38 h) := zTab.mk (ret := (some .int)) (bl := xk4_38) (by decide +kernel) (by decide +kernel) rfl rfl
def zt5_0 (h : Nat) : ZB := [(0, [zf_ald 1, zf_ic 0, zf_inv h 1 56 1, zf_ald 0, zf_getI 5 0, zf_ic 10, zf_ic2 .ge 24, zf_ald 1, zf_getI 1 17, zf_ic 512, zf_ic2 .le 26], 24),
  (24, [zf_ic (-1), zf_reti], 26),
  (26, [zf_ild 2, zf_if .ne 33, zf_ic (-5), zf_reti], 33),
  (33, [zf_ald 0, zf_getI 5 0, zf_ist 3, zf_ald 0, zf_dup, zf_getI 5 0, zf_ic 1, zf_add, zf_putI 5 0, zf_ald 0, zf_getR 5 2, zf_ild 3, zf_ald 1, zf_getI 1 17, zf_astI, zf_ic 0, zf_ist 4], 61),
  (61, [zf_ild 4, zf_ald 1, zf_getI 1 17, zf_ic2 .ge 96, zf_ald 0, zf_getR 5 1, zf_ild 3, zf_ic 512, zf_mul, zf_ild 4, zf_add, zf_ald 1, zf_getR 1 16, zf_ild 4, zf_aldI 104, zf_astC, zf_inc 4 1, zf_go 61], 96),
  (96, [zf_ic 0, zf_ist 4], 99),
  (99, [zf_ild 4, zf_ic 16, zf_ic2 .ge 125, zf_ald 0, zf_getR 5 4, zf_ild 3, zf_ic 16, zf_mul, zf_ild 4, zf_add, zf_ic (-1), zf_astI, zf_inc 4 1, zf_go 99], 125),
  (125, [zf_ald 0, zf_getR 5 5, zf_ild 3, zf_ic 0, zf_astB, zf_ald 0, zf_ild 3, zf_inv h 5 6 1, zf_ild 3, zf_reti], 139)]
theorem zT5_0 (h : Nat) : zTab h 5 0 5 (zt5_0 h) := zTab.mk (ret := (some .int)) (bl := xk5_0) (by decide +kernel) (by decide +kernel) rfl rfl
def zt5_1 (h : Nat) : ZB := [(0, [zf_ald 0, zf_getI 5 8, zf_ald 0, zf_getR 5 7, zf_len, zf_ic2 .ge 36, zf_ald 0, zf_getR 5 7, zf_ald 0, zf_getI 5 8, zf_ild 1, zf_ic 255, zf_bit zand, zf_astI, zf_ald 0, zf_dup, zf_getI 5 8, zf_ic 1, zf_add, zf_putI 5 8], 36),
  (36, [zf_ret], 37)]
theorem zT5_1 (h : Nat) : zTab h 5 1 2 (zt5_1 h) := zTab.mk (ret := none) (bl := xk5_1) (by decide +kernel) (by decide +kernel) rfl rfl
def zt5_2 (h : Nat) : ZB := [(0, [zf_ald 0, zf_getI 5 13, zf_ist 3, zf_ald 0, zf_ic 0, zf_inv h 5 12 1, zf_ald 0, zf_ild 1, zf_inv h 5 14 1, zf_ist 4, zf_ild 1, zf_ic 480, zf_mul, zf_ist 5, zf_ild 2, zf_ist 6, zf_ic 0, zf_ist 7], 30),
  (30, [zf_ild 7, zf_ic 480, zf_ic2 .ge 163, zf_ild 4, zf_ic 1, zf_ic2 .le 163, zf_ild 6, zf_ic 2, zf_rem, zf_if .ne 58, zf_ild 6, zf_ic 1, zf_add, zf_go 62], 58),
  (58, [zf_ild 6, zf_ic 1, zf_sub], 62),
  (62, [zf_ist 8, zf_ild 8, zf_ild 4, zf_ic2 .ge 133, zf_ald 0, zf_getR 5 12, zf_ild 3, zf_dup2, zf_aldI 100, zf_ic 1, zf_add, zf_astI, zf_ald 0, zf_ild 8, zf_ild 6, zf_ic2 .ge 93, zf_ic 0, zf_go 94], 93),
  (93, [zf_ic 1], 94),
  (94, [zf_inv h 5 12 1, zf_ic 0, zf_ist 9], 100),
  (100, [zf_ild 9, zf_ic 32, zf_ic2 .ge 133, zf_ald 0, zf_ald 0, zf_getR 5 3, zf_ild 5, zf_ild 8, zf_ic 32, zf_mul, zf_add, zf_ild 9, zf_add, zf_aldI 100, zf_inv h 5 12 1, zf_inc 9 1, zf_go 100], 133),
  (133, [zf_ild 5, zf_ild 4, zf_ic 32, zf_mul, zf_add, zf_ist 5, zf_ild 4, zf_ic 1, zf_add, zf_ic 2, zf_div, zf_ist 4, zf_ild 6, zf_ic 2, zf_div, zf_ist 6, zf_inc 7 1, zf_go 30], 163),
  (163, [zf_ret], 164)]
theorem zT5_2 (h : Nat) : zTab h 5 2 10 (zt5_2 h) := zTab.mk (ret := none) (bl := xk5_2) (by decide +kernel) (by decide +kernel) rfl rfl
def zt5_3 (h : Nat) : ZB := [(0, [zf_ald 0, zf_ic 0, zf_putI 5 8, zf_ald 0, zf_ic 0, zf_inv h 5 1 1, zf_ald 0, zf_ild 1, zf_ic 256, zf_div, zf_inv h 5 1 1, zf_ald 0, zf_ild 1, zf_ic 256, zf_rem, zf_inv h 5 1 1, zf_ret], 29)]
theorem zT5_3 (h : Nat) : zTab h 5 3 2 (zt5_3 h) := zTab.mk (ret := none) (bl := xk5_3) (by decide +kernel) (by decide +kernel) rfl rfl
def zt5_4 (h : Nat) : ZB := [(0, [zf_ald 0, zf_ild 1, zf_ild 2, zf_inv h 5 10 2, zf_if .ne 11, zf_ic (-1), zf_reti], 11),
  (11, [zf_ald 0, zf_ic 0, zf_putI 5 13, zf_ald 0, zf_ild 1, zf_inv h 5 12 1, zf_ald 0, zf_ild 2, zf_ic 256, zf_div, zf_inv h 5 12 1, zf_ald 0, zf_ild 2, zf_ic 256, zf_rem, zf_inv h 5 12 1, zf_ald 0, zf_ald 0, zf_ild 1, zf_ild 2, zf_inv h 5 13 2, zf_inv h 5 12 1, zf_ic 0, zf_ist 5], 52),
  (52, [zf_ild 5, zf_ald 0, zf_ild 1, zf_ild 2, zf_inv h 5 13 2, zf_ic2 .ge 91, zf_ald 0, zf_ald 0, zf_getR 5 1, zf_ild 1, zf_ic 512, zf_mul, zf_ild 2, zf_ic 64, zf_mul, zf_add, zf_ild 5, zf_add, zf_aldI 104, zf_inv h 5 12 1, zf_inc 5 1, zf_go 52], 91),
  (91, [zf_ald 0, zf_ild 1, zf_ild 2, zf_inv h 5 2 2, zf_ild 3, zf_ic (-1), zf_ic2 .lt 110, zf_ild 3, zf_ald 0, zf_getI 5 13, zf_ic2 .lt 112], 110),
  (110, [zf_ic (-1), zf_reti], 112),
  (112, [zf_ild 3, zf_ic (-1), zf_ic2 .eq 132, zf_ald 0, zf_getR 5 12, zf_ild 3, zf_dup2, zf_aldI 100, zf_ild 4, zf_ic 255, zf_bit zand, zf_bit zxor, zf_astI], 132),
  (132, [zf_ald 0, zf_inv h 5 9 0, zf_if .eq 150, zf_ald 0, zf_inv h 5 20 0, zf_if .eq 150, zf_ic 1, zf_go 151], 150),
  (150, [zf_ic 0], 151),
  (151, [zf_reti], 152)]
theorem zT5_4 (h : Nat) : zTab h 5 4 6 (zt5_4 h) := zTab.mk (ret := (some .int)) (bl := xk5_4) (by decide +kernel) (by decide +kernel) rfl rfl
def zt5_5 (h : Nat) : ZB := [(0, [zf_ic 0, zf_ist 2], 2),
  (2, [zf_ild 2, zf_ic 16, zf_ic2 .ge 68, zf_ild 1, zf_ic 4, zf_ild 2, zf_mul, zf_add, zf_ist 3, zf_ald 0, zf_getR 5 10, zf_ild 2, zf_ald 0, zf_getR 5 7, zf_ild 3, zf_aldI 100, zf_ic 24, zf_bit zshl, zf_ald 0, zf_getR 5 7, zf_ild 3, zf_ic 1, zf_add, zf_aldI 100, zf_ic 16, zf_bit zshl, zf_bit zor, zf_ald 0, zf_getR 5 7, zf_ild 3, zf_ic 2, zf_add, zf_aldI 100, zf_ic 8, zf_bit zshl, zf_bit zor, zf_ald 0, zf_getR 5 7, zf_ild 3, zf_ic 3, zf_add, zf_aldI 100, zf_bit zor, zf_astI, zf_inc 2 1, zf_go 2], 68),
  (68, [zf_ic 16, zf_ist 2], 71),
  (71, [zf_ild 2, zf_ic 64, zf_ic2 .ge 176, zf_ald 0, zf_getR 5 10, zf_ild 2, zf_ic 15, zf_sub, zf_aldI 100, zf_ist 3, zf_ald 0, zf_getR 5 10, zf_ild 2, zf_ic 2, zf_sub, zf_aldI 100, zf_ist 4, zf_ild 3, zf_ic 7, zf_inst h 5 26 2, zf_ild 3, zf_ic 18, zf_inst h 5 26 2, zf_bit zxor, zf_ild 3, zf_ic 3, zf_bit zushr, zf_bit zxor, zf_ist 5, zf_ild 4, zf_ic 17, zf_inst h 5 26 2, zf_ild 4, zf_ic 19, zf_inst h 5 26 2, zf_bit zxor, zf_ild 4, zf_ic 10, zf_bit zushr, zf_bit zxor, zf_ist 6, zf_ald 0, zf_getR 5 10, zf_ild 2, zf_ald 0, zf_getR 5 10, zf_ild 2, zf_ic 16, zf_sub, zf_aldI 100, zf_ild 5, zf_add, zf_ald 0, zf_getR 5 10, zf_ild 2, zf_ic 7, zf_sub, zf_aldI 100, zf_add, zf_ild 6, zf_add, zf_astI, zf_inc 2 1, zf_go 71], 176),
  (176, [zf_ret], 177)]
theorem zT5_5 (h : Nat) : zTab h 5 5 7 (zt5_5 h) := zTab.mk (ret := none) (bl := xk5_5) (by decide +kernel) (by decide +kernel) rfl rfl
def zt5_6 (h : Nat) : ZB := [(0, [zf_ald 0, zf_ild 1, zf_inv h 5 14 1, zf_ist 2, zf_ild 1, zf_ic 480, zf_mul, zf_ist 3, zf_ic 0, zf_ist 4], 15),
  (15, [zf_ild 4, zf_ild 2, zf_ic2 .ge 99, zf_ald 0, zf_ild 4, zf_inv h 5 3 1, zf_ic 0, zf_ist 5], 30),
  (30, [zf_ild 5, zf_ald 0, zf_ild 1, zf_ild 4, zf_inv h 5 13 2, zf_ic2 .ge 71, zf_ald 0, zf_ald 0, zf_getR 5 1, zf_ild 1, zf_ic 512, zf_mul, zf_ild 4, zf_ic 64, zf_mul, zf_add, zf_ild 5, zf_add, zf_aldI 104, zf_inv h 5 1 1, zf_inc 5 1, zf_go 30], 71),
  (71, [zf_ald 0, zf_inv h 5 16 0, zf_ald 0, zf_getR 5 11, zf_ic 0, zf_ald 0, zf_getR 5 3, zf_ild 3, zf_ic 32, zf_copy, zf_inc 3 32, zf_inc 4 1, zf_go 15], 99),
  (99, [zf_ild 1, zf_ic 480, zf_mul, zf_ist 4, zf_ic 0, zf_ist 5], 109),
  (109, [zf_ild 5, zf_ic 480, zf_ic2 .ge 190, zf_ild 2, zf_ic 1, zf_ic2 .le 190, zf_ild 2, zf_ic 1, zf_add, zf_ic 2, zf_div, zf_ist 6, zf_ic 0, zf_ist 7], 132),
  (132, [zf_ild 7, zf_ild 6, zf_ic2 .ge 172, zf_ald 0, zf_ild 4, zf_ild 7, zf_ild 2, zf_inv h 5 15 3, zf_ald 0, zf_getR 5 11, zf_ic 0, zf_ald 0, zf_getR 5 3, zf_ild 3, zf_ic 32, zf_copy, zf_inc 3 32, zf_inc 7 1, zf_go 132], 172),
  (172, [zf_ild 4, zf_ild 2, zf_ic 32, zf_mul, zf_add, zf_ist 4, zf_ild 6, zf_ist 2, zf_inc 5 1, zf_go 109], 190),
  (190, [zf_ret], 191)]
theorem zT5_6 (h : Nat) : zTab h 5 6 8 (zt5_6 h) := zTab.mk (ret := none) (bl := xk5_6) (by decide +kernel) (by decide +kernel) rfl rfl
def zt5_8 (h : Nat) : ZB := [(0, [zf_ic (-1), zf_ist 2, zf_ic 0, zf_ist 3, zf_ic 0, zf_ist 4], 7),
  (7, [zf_ild 4, zf_ic 16, zf_ic2 .ge 64, zf_ald 0, zf_getR 5 4, zf_ild 1, zf_ic 16, zf_mul, zf_ild 4, zf_add, zf_aldI 100, zf_ist 5, zf_ild 5, zf_ic (-1), zf_ic2 .eq 58, zf_ild 3, zf_if .ne 49, zf_ild 2, zf_ic (-1), zf_ic2 .eq 53, zf_ild 2, zf_ild 5, zf_ic2 .eq 53], 49),
  (49, [zf_ic 1, zf_go 54], 53),
  (53, [zf_ic 0], 54),
  (54, [zf_ist 3, zf_ild 5, zf_ist 2], 58),
  (58, [zf_inc 4 1, zf_go 7], 64),
  (64, [zf_ild 3, zf_retz], 66)]
theorem zT5_8 (h : Nat) : zTab h 5 8 6 (zt5_8 h) := zTab.mk (ret := (some .boolean)) (bl := xk5_8) (by decide +kernel) (by decide +kernel) rfl rfl
def zt5_9 (h : Nat) : ZB := [(0, [zf_ic 4, zf_ald 0, zf_getR 5 12, zf_ic 3, zf_aldI 100, zf_add, zf_ist 1, zf_ald 0, zf_ald 0, zf_getR 5 12, zf_ic 0, zf_aldI 100, zf_inv h 5 11 1, zf_if .eq 41, zf_ald 0, zf_getR 5 12, zf_ic 3, zf_aldI 100, zf_ic 64, zf_ic2 .gt 41, zf_ild 1, zf_ald 0, zf_getI 5 13, zf_ic2 .lt 43], 41),
  (41, [zf_ic 0, zf_retz], 43),
  (43, [zf_ald 0, zf_getI 5 13, zf_ild 1, zf_ic 1, zf_add, zf_ald 0, zf_getR 5 12, zf_ild 1, zf_aldI 100, zf_ic 33, zf_mul, zf_add, zf_ic2 .ne 67, zf_ic 1, zf_go 68], 67),
  (67, [zf_ic 0], 68),
  (68, [zf_ist 2, zf_ild 1, zf_ic 1, zf_add, zf_ist 3], 73),
  (73, [zf_ild 3, zf_ald 0, zf_getI 5 13, zf_ic2 .ge 107, zf_ild 2, zf_if .eq 107, zf_ald 0, zf_getR 5 12, zf_ild 3, zf_aldI 100, zf_ic 1, zf_ic2 .gt 99, zf_ic 1, zf_go 100], 99),
  (99, [zf_ic 0], 100),
  (100, [zf_ist 2, zf_inc 3 33, zf_go 73], 107),
  (107, [zf_ild 2, zf_retz], 109)]
theorem zT5_9 (h : Nat) : zTab h 5 9 4 (zt5_9 h) := zTab.mk (ret := (some .boolean)) (bl := xk5_9) (by decide +kernel) (by decide +kernel) rfl rfl
def zt5_10 (h : Nat) : ZB := [(0, [zf_ild 2, zf_if .lt 17, zf_ild 2, zf_ald 0, zf_ild 1, zf_inv h 5 14 1, zf_ic2 .ge 17, zf_ic 1, zf_go 18], 17),
  (17, [zf_ic 0], 18),
  (18, [zf_retz], 19)]
theorem zT5_10 (h : Nat) : zTab h 5 10 3 (zt5_10 h) := zTab.mk (ret := (some .boolean)) (bl := xk5_10) (by decide +kernel) (by decide +kernel) rfl rfl
def zt5_11 (h : Nat) : ZB := [(0, [zf_ild 1, zf_if .lt 16, zf_ild 1, zf_ald 0, zf_getI 5 0, zf_ic2 .ge 16, zf_ic 1, zf_go 17], 16),
  (16, [zf_ic 0], 17),
  (17, [zf_retz], 18)]
theorem zT5_11 (h : Nat) : zTab h 5 11 2 (zt5_11 h) := zTab.mk (ret := (some .boolean)) (bl := xk5_11) (by decide +kernel) (by decide +kernel) rfl rfl
def zt5_12 (h : Nat) : ZB := [(0, [zf_ald 0, zf_getI 5 13, zf_ic 201, zf_ic2 .ge 30, zf_ald 0, zf_getR 5 12, zf_ald 0, zf_getI 5 13, zf_ild 1, zf_astI, zf_ald 0, zf_dup, zf_getI 5 13, zf_ic 1, zf_add, zf_putI 5 13], 30),
  (30, [zf_ret], 31)]
theorem zT5_12 (h : Nat) : zTab h 5 12 2 (zt5_12 h) := zTab.mk (ret := none) (bl := xk5_12) (by decide +kernel) (by decide +kernel) rfl rfl
def zt5_13 (h : Nat) : ZB := [(0, [zf_ic 64, zf_ald 0, zf_getR 5 2, zf_ild 1, zf_aldI 100, zf_ild 2, zf_ic 64, zf_mul, zf_sub, zf_min, zf_reti], 17)]
theorem zT5_13 (h : Nat) : zTab h 5 13 3 (zt5_13 h) := zTab.mk (ret := (some .int)) (bl := xk5_13) (by decide +kernel) (by decide +kernel) rfl rfl
def zt5_14 (h : Nat) : ZB := [(0, [zf_ald 0, zf_ild 1, zf_inv h 5 11 1, zf_if .eq 25, zf_ald 0, zf_getR 5 2, zf_ild 1, zf_aldI 100, zf_ic 64, zf_add, zf_ic 1, zf_sub, zf_ic 64, zf_div, zf_go 26], 25),
  (25, [zf_ic 0], 26),
  (26, [zf_reti], 27)]
theorem zT5_14 (h : Nat) : zTab h 5 14 2 (zt5_14 h) := zTab.mk (ret := (some .int)) (bl := xk5_14) (by decide +kernel) (by decide +kernel) rfl rfl
def zt5_15 (h : Nat) : ZB := [(0, [zf_ild 1, zf_ic 2, zf_ild 2, zf_mul, zf_ic 32, zf_mul, zf_add, zf_ist 4, zf_ic 2, zf_ild 2, zf_mul, zf_ic 1, zf_add, zf_ild 3, zf_ic2 .ge 66, zf_ald 0, zf_ic 0, zf_putI 5 8, zf_ald 0, zf_ic 1, zf_inv h 5 1 1, zf_ic 0, zf_ist 5], 32),
  (32, [zf_ild 5, zf_ic 64, zf_ic2 .ge 59, zf_ald 0, zf_ald 0, zf_getR 5 3, zf_ild 4, zf_ild 5, zf_add, zf_aldI 100, zf_inv h 5 1 1, zf_inc 5 1, zf_go 32], 59),
  (59, [zf_ald 0, zf_inv h 5 16 0, zf_go 82], 66),
  (66, [zf_ald 0, zf_getR 5 3, zf_ild 4, zf_ald 0, zf_getR 5 11, zf_ic 0, zf_ic 32, zf_copy], 82),
  (82, [zf_ret], 83)]
theorem zT5_15 (h : Nat) : zTab h 5 15 6 (zt5_15 h) := zTab.mk (ret := none) (bl := xk5_15) (by decide +kernel) (by decide +kernel) rfl rfl
def zt5_16 (h : Nat) : ZB := [(0, [zf_ald 0, zf_getI 5 8, zf_ic 8, zf_mul, zf_ist 1, zf_ald 0, zf_ic 128, zf_inv h 5 1 1, zf_ic 0, zf_ist 2], 17),
  (17, [zf_ild 2, zf_ic 64, zf_ic2 .ge 46, zf_ald 0, zf_getI 5 8, zf_ic 64, zf_rem, zf_ic 56, zf_ic2 .eq 46, zf_ald 0, zf_ic 0, zf_inv h 5 1 1, zf_inc 2 1, zf_go 17], 46),
  (46, [zf_ic 56, zf_ist 2], 49),
  (49, [zf_ild 2, zf_if .lt 76, zf_ald 0, zf_ild 2, zf_ic 32, zf_ic2 .ge 66, zf_ild 1, zf_ild 2, zf_bit zushr, zf_go 67], 66),
  (66, [zf_ic 0], 67),
  (67, [zf_inv h 5 1 1, zf_inc 2 (-8), zf_go 49], 76),
  (76, [zf_rc 4, zf_ic 0, zf_ald 0, zf_getR 5 9, zf_ic 0, zf_rc 4, zf_len, zf_copy, zf_ic 0, zf_ist 2], 94),
  (94, [zf_ild 2, zf_ic 64, zf_add, zf_ald 0, zf_getI 5 8, zf_ic2 .gt 120, zf_ald 0, zf_ild 2, zf_inv h 5 5 1, zf_ald 0, zf_inv h 5 17 0, zf_inc 2 64, zf_go 94], 120),
  (120, [zf_ic 0, zf_ist 2], 122),
  (122, [zf_ild 2, zf_ic 32, zf_ic2 .ge 162, zf_ald 0, zf_getR 5 11, zf_ild 2, zf_ald 0, zf_getR 5 9, zf_ild 2, zf_ic 4, zf_div, zf_aldI 100, zf_ic 24, zf_ild 2, zf_ic 4, zf_rem, zf_ic 8, zf_mul, zf_sub, zf_bit zushr, zf_ic 255, zf_bit zand, zf_astI, zf_inc 2 1, zf_go 122], 162),
  (162, [zf_ret], 163)]
theorem zT5_16 (h : Nat) : zTab h 5 16 3 (zt5_16 h) := zTab.mk (ret := none) (bl := xk5_16) (by decide +kernel) (by decide +kernel) rfl rfl
def zt5_17 (h : Nat) : ZB := [(0, [zf_ald 0, zf_getR 5 9, zf_ic 0, zf_aldI 100, zf_ist 1, zf_ald 0, zf_getR 5 9, zf_ic 1, zf_aldI 100, zf_ist 2, zf_ald 0, zf_getR 5 9, zf_ic 2, zf_aldI 100, zf_ist 3, zf_ald 0, zf_getR 5 9, zf_ic 3, zf_aldI 100, zf_ist 4, zf_ald 0, zf_getR 5 9, zf_ic 4, zf_aldI 100, zf_ist 5, zf_ald 0, zf_getR 5 9, zf_ic 5, zf_aldI 100, zf_ist 6, zf_ald 0, zf_getR 5 9, zf_ic 6, zf_aldI 100, zf_ist 7, zf_ald 0, zf_getR 5 9, zf_ic 7, zf_aldI 100, zf_ist 8, zf_ic 0, zf_ist 9], 66),
  (66, [zf_ild 9, zf_ic 64, zf_ic2 .ge 209, zf_ild 5, zf_ic 6, zf_inst h 5 26 2, zf_ild 5, zf_ic 11, zf_inst h 5 26 2, zf_bit zxor, zf_ild 5, zf_ic 25, zf_inst h 5 26 2, zf_bit zxor, zf_ist 10, zf_ild 8, zf_ild 10, zf_add, zf_ild 5, zf_ild 6, zf_bit zand, zf_ild 5, zf_ic (-1), zf_bit zxor, zf_ild 7, zf_bit zand, zf_bit zxor, zf_add, zf_rc 5, zf_ild 9, zf_aldI 100, zf_add, zf_ald 0, zf_getR 5 10, zf_ild 9, zf_aldI 100, zf_add, zf_ist 11, zf_ild 1, zf_ic 2, zf_inst h 5 26 2, zf_ild 1, zf_ic 13, zf_inst h 5 26 2, zf_bit zxor, zf_ild 1, zf_ic 22, zf_inst h 5 26 2, zf_bit zxor, zf_ist 12, zf_ild 12, zf_ild 1, zf_ild 2, zf_bit zand, zf_ild 1, zf_ild 3, zf_bit zand, zf_bit zxor, zf_ild 2, zf_ild 3, zf_bit zand, zf_bit zxor, zf_add, zf_ist 13, zf_ild 7, zf_ist 8, zf_ild 6, zf_ist 7, zf_ild 5, zf_ist 6, zf_ild 4, zf_ild 11, zf_add, zf_ist 5, zf_ild 3, zf_ist 4, zf_ild 2, zf_ist 3, zf_ild 1, zf_ist 2, zf_ild 11, zf_ild 13, zf_add, zf_ist 1, zf_inc 9 1, zf_go 66], 209),
  (209, [zf_ald 0, zf_getR 5 9, zf_ic 0, zf_dup2, zf_aldI 100, zf_ild 1, zf_add, zf_astI, zf_ald 0, zf_getR 5 9, zf_ic 1, zf_dup2, zf_aldI 100, zf_ild 2, zf_add, zf_astI, zf_ald 0, zf_getR 5 9, zf_ic 2, zf_dup2, zf_aldI 100, zf_ild 3, zf_add, zf_astI, zf_ald 0, zf_getR 5 9, zf_ic 3, zf_dup2, zf_aldI 100, zf_ild 4, zf_add, zf_astI, zf_ald 0, zf_getR 5 9, zf_ic 4, zf_dup2, zf_aldI 100, zf_ild 5, zf_add, zf_astI, zf_ald 0, zf_getR 5 9, zf_ic 5, zf_dup2, zf_aldI 100, zf_ild 6, zf_add, zf_astI, zf_ald 0, zf_getR 5 9, zf_ic 6, zf_dup2, zf_aldI 100, zf_ild 7, zf_add, zf_astI, zf_ald 0, zf_getR 5 9, zf_ic 7, zf_dup2, zf_aldI 100, zf_ild 8, zf_add, zf_astI, zf_ret], 297)]
theorem zT5_17 (h : Nat) : zTab h 5 17 14 (zt5_17 h) := zTab.mk (ret := none) (bl := xk5_17) (by decide +kernel) (by decide +kernel) rfl rfl
def zt5_18 (h : Nat) : ZB := [(0, [zf_ald 0, zf_ild 1, zf_inv h 5 11 1, zf_if .ne 11, zf_ic (-2), zf_reti], 11),
  (11, [zf_ald 0, zf_getI 5 6, zf_ic 60, zf_ic2 .lt 22, zf_ic (-1), zf_reti], 22),
  (22, [zf_ald 0, zf_getR 5 5, zf_ild 1, zf_aldB, zf_if .ne 39, zf_ald 0, zf_ild 1, zf_inv h 5 8 1, zf_if .ne 42], 39),
  (39, [zf_ic (-5), zf_reti], 42),
  (42, [zf_ald 0, zf_dup, zf_getI 5 6, zf_ic 1, zf_add, zf_putI 5 6, zf_ald 0, zf_getI 5 6, zf_ic 1, zf_sub, zf_reti], 59)]
theorem zT5_18 (h : Nat) : zTab h 5 18 2 (zt5_18 h) := zTab.mk (ret := (some .int)) (bl := xk5_18) (by decide +kernel) (by decide +kernel) rfl rfl
def zt5_19 (h : Nat) : ZB := [(0, [zf_ald 0, zf_ild 1, zf_ild 2, zf_inv h 5 10 2, zf_if .ne 11, zf_ic (-1), zf_reti], 11),
  (11, [zf_ald 0, zf_ic 0, zf_putI 5 13, zf_ald 0, zf_ild 1, zf_ild 2, zf_inv h 5 2 2, zf_ild 3, zf_if .lt 43, zf_ild 3, zf_ald 0, zf_getI 5 13, zf_ic2 .ge 43, zf_ald 0, zf_getR 5 12, zf_ild 3, zf_aldI 100, zf_go 44], 43),
  (43, [zf_ic (-1)], 44),
  (44, [zf_reti], 45)]
theorem zT5_19 (h : Nat) : zTab h 5 19 4 (zt5_19 h) := zTab.mk (ret := (some .int)) (bl := xk5_19) (by decide +kernel) (by decide +kernel) rfl rfl
def zt5_20 (h : Nat) : ZB := [(0, [zf_ic 4, zf_ald 0, zf_getR 5 12, zf_ic 3, zf_aldI 100, zf_add, zf_ist 1, zf_ald 0, zf_ald 0, zf_getR 5 12, zf_ic 1, zf_aldI 100, zf_ic 256, zf_mul, zf_ald 0, zf_getR 5 12, zf_ic 2, zf_aldI 100, zf_add, zf_inv h 5 3 1, zf_ic 4, zf_ist 2], 32),
  (32, [zf_ild 2, zf_ild 1, zf_ic2 .ge 53, zf_ald 0, zf_ald 0, zf_getR 5 12, zf_ild 2, zf_aldI 100, zf_inv h 5 1 1, zf_inc 2 1, zf_go 32], 53),
  (53, [zf_ald 0, zf_inv h 5 16 0, zf_ild 1, zf_ic 1, zf_add, zf_ist 2], 61),
  (61, [zf_ild 2, zf_ic 33, zf_add, zf_ald 0, zf_getI 5 13, zf_ic2 .gt 83, zf_ald 0, zf_ild 2, zf_inv h 5 25 1, zf_inc 2 33, zf_go 61], 83),
  (83, [zf_ic 1, zf_ist 2, zf_ic 0, zf_ist 3], 87),
  (87, [zf_ild 3, zf_ic 32, zf_ic2 .ge 129, zf_ild 2, zf_if .eq 129, zf_ald 0, zf_getR 5 11, zf_ild 3, zf_aldI 100, zf_ald 0, zf_ald 0, zf_getR 5 12, zf_ic 0, zf_aldI 100, zf_ild 3, zf_inv h 5 22 2, zf_ic2 .ne 121, zf_ic 1, zf_go 122], 121),
  (121, [zf_ic 0], 122),
  (122, [zf_ist 2, zf_inc 3 1, zf_go 87], 129),
  (129, [zf_ild 2, zf_retz], 131)]
theorem zT5_20 (h : Nat) : zTab h 5 20 4 (zt5_20 h) := zTab.mk (ret := (some .boolean)) (bl := xk5_20) (by decide +kernel) (by decide +kernel) rfl rfl
def zt5_21 (h : Nat) : ZB := [(0, [zf_ald 0, zf_ild 1, zf_inv h 5 14 1, zf_ist 2, zf_ild 1, zf_ic 480, zf_mul, zf_ist 3, zf_ic 0, zf_ist 4], 15),
  (15, [zf_ild 4, zf_ic 480, zf_ic2 .ge 47, zf_ild 2, zf_ic 1, zf_ic2 .le 47, zf_ild 3, zf_ild 2, zf_ic 32, zf_mul, zf_add, zf_ist 3, zf_ild 2, zf_ic 1, zf_add, zf_ic 2, zf_div, zf_ist 2, zf_inc 4 1, zf_go 15], 47),
  (47, [zf_ild 3, zf_reti], 49)]
theorem zT5_21 (h : Nat) : zTab h 5 21 5 (zt5_21 h) := zTab.mk (ret := (some .int)) (bl := xk5_21) (by decide +kernel) (by decide +kernel) rfl rfl
def zt5_22 (h : Nat) : ZB := [(0, [zf_ald 0, zf_ild 1, zf_inv h 5 11 1, zf_if .eq 33, zf_ild 2, zf_if .lt 33, zf_ild 2, zf_ic 32, zf_ic2 .ge 33, zf_ald 0, zf_getR 5 3, zf_ald 0, zf_ild 1, zf_inv h 5 21 1, zf_ild 2, zf_add, zf_aldI 100, zf_go 34], 33),
  (33, [zf_ic (-1)], 34),
  (34, [zf_reti], 35)]
theorem zT5_22 (h : Nat) : zTab h 5 22 3 (zt5_22 h) := zTab.mk (ret := (some .int)) (bl := xk5_22) (by decide +kernel) (by decide +kernel) rfl rfl
def zt5_23 (h : Nat) : ZB := [(0, [zf_ild 2, zf_if .lt 23, zf_ild 2, zf_ic 16, zf_ic2 .ge 23, zf_ild 3, zf_if .lt 23, zf_ild 3, zf_ic 4, zf_ic2 .ge 23, zf_ic 1, zf_go 24], 23),
  (23, [zf_ic 0], 24),
  (24, [zf_ist 4, zf_ald 0, zf_ild 1, zf_inv h 5 11 1, zf_if .eq 39, zf_ild 4, zf_if .ne 42], 39),
  (39, [zf_ic (-2), zf_reti], 42),
  (42, [zf_ald 0, zf_getR 5 4, zf_ild 1, zf_ic 16, zf_mul, zf_ild 2, zf_add, zf_ild 3, zf_astI, zf_ald 0, zf_ild 1, zf_inv h 5 8 1, zf_if .eq 66, zf_ic 1, zf_go 67], 66),
  (66, [zf_ic 0], 67),
  (67, [zf_reti], 68)]
theorem zT5_23 (h : Nat) : zTab h 5 23 5 (zt5_23 h) := zTab.mk (ret := (some .int)) (bl := xk5_23) (by decide +kernel) (by decide +kernel) rfl rfl
def zt5_24 (h : Nat) : ZB := [(0, [zf_ald 0, zf_ild 1, zf_inv h 5 11 1, zf_if .ne 11, zf_ic (-2), zf_reti], 11),
  (11, [zf_ald 0, zf_getR 5 5, zf_ild 1, zf_aldB, zf_if .eq 23, zf_ic (-4), zf_reti], 23),
  (23, [zf_ald 0, zf_getR 5 5, zf_ild 1, zf_ic 1, zf_astB, zf_ic 0, zf_reti], 32)]
theorem zT5_24 (h : Nat) : zTab h 5 24 2 (zt5_24 h) := zTab.mk (ret := (some .int)) (bl := xk5_24) (by decide +kernel) (by decide +kernel) rfl rfl
def zt5_25 (h : Nat) : ZB := [(0, [zf_ald 0, zf_getR 5 12, zf_ild 1, zf_aldI 100, zf_if .ne 13, zf_ic 1, zf_go 14], 13),
  (13, [zf_ic 0], 14),
  (14, [zf_ist 2, zf_ald 0, zf_ic 0, zf_putI 5 8, zf_ald 0, zf_ic 1, zf_inv h 5 1 1, zf_ic 0, zf_ist 3], 27),
  (27, [zf_ild 3, zf_ic 64, zf_ic2 .ge 95, zf_ild 3, zf_ic 32, zf_ic2 .ge 43, zf_ic 1, zf_go 44], 43),
  (43, [zf_ic 0], 44),
  (44, [zf_ild 2, zf_ic2 .ne 52, zf_ic 1, zf_go 53], 52),
  (52, [zf_ic 0], 53),
  (53, [zf_ist 4, zf_ald 0, zf_ild 4, zf_if .eq 77, zf_ald 0, zf_getR 5 12, zf_ild 1, zf_ic 1, zf_add, zf_ild 3, zf_ic 32, zf_rem, zf_add, zf_aldI 100, zf_go 86], 77),
  (77, [zf_ald 0, zf_getR 5 11, zf_ild 3, zf_ic 32, zf_rem, zf_aldI 100], 86),
  (86, [zf_inv h 5 1 1, zf_inc 3 1, zf_go 27], 95),
  (95, [zf_ald 0, zf_inv h 5 16 0, zf_ret], 100)]
theorem zT5_25 (h : Nat) : zTab h 5 25 5 (zt5_25 h) := zTab.mk (ret := none) (bl := xk5_25) (by decide +kernel) (by decide +kernel) rfl rfl
def zt5_26 (h : Nat) : ZB := [(0, [zf_ild 0, zf_ild 1, zf_bit zushr, zf_ild 0, zf_ic 32, zf_ild 1, zf_sub, zf_bit zshl, zf_bit zor, zf_reti], 11)]
theorem zT5_26 (h : Nat) : zTab h 5 26 2 (zt5_26 h) := zTab.mk (ret := (some .int)) (bl := xk5_26) (by decide +kernel) (by decide +kernel) rfl rfl
def zt6_0 (h : Nat) : ZB := [(0, [zf_ic 0, zf_ist 2], 2),
  (2, [zf_ild 2, zf_ic 6, zf_ic2 .ge 75, zf_ald 0, zf_getR 6 0, zf_ild 1, zf_ild 2, zf_inv h 0 16 2, zf_ist 3, zf_ild 3, zf_ic (-1), zf_ic2 .eq 69, zf_ald 0, zf_getR 6 1, zf_ild 3, zf_aldI 100, zf_ic (-1), zf_ic2 .eq 69, zf_ald 0, zf_getR 6 1, zf_ild 3, zf_aldI 100, zf_ald 0, zf_getR 6 0, zf_ild 3, zf_ic 5, zf_ild 2, zf_sub, zf_inv h 0 24 2, zf_add, zf_ald 0, zf_getR 6 2, zf_ild 1, zf_aldI 100, zf_add, zf_ald 0, zf_getR 6 1, zf_ild 1, zf_aldI 100, zf_ic2 .ne 69, zf_ild 3, zf_reti], 69),
  (69, [zf_inc 2 1, zf_go 2], 75),
  (75, [zf_ic (-1), zf_reti], 77)]
theorem zT6_0 (h : Nat) : zTab h 6 0 4 (zt6_0 h) := zTab.mk (ret := (some .int)) (bl := xk6_0) (by decide +kernel) (by decide +kernel) rfl rfl
def zt6_1 (h : Nat) : ZB := [(0, [zf_ald 0, zf_getR 6 0, zf_getI 0 1, zf_ald 0, zf_getR 6 0, zf_getI 0 2, zf_mul, zf_ald 0, zf_getR 6 0, zf_getI 0 3, zf_mul, zf_ist 2, zf_ic 0, zf_ist 3, zf_ic 0, zf_ist 4], 29),
  (29, [zf_ild 4, zf_ild 2, zf_ic2 .ge 115, zf_ic 0, zf_ist 5], 38),
  (38, [zf_ild 5, zf_ic 6, zf_ic2 .ge 109, zf_ald 0, zf_getR 6 1, zf_ild 4, zf_aldI 100, zf_ic (-1), zf_ic2 .eq 109, zf_ald 0, zf_getR 6 0, zf_ild 4, zf_ild 5, zf_inv h 0 16 2, zf_ist 6, zf_ild 6, zf_ic (-1), zf_ic2 .eq 103, zf_ald 0, zf_getR 6 0, zf_ild 6, zf_ild 1, zf_inv h 0 11 2, zf_if .eq 103, zf_ild 3, zf_ic 1, zf_ald 0, zf_getR 6 0, zf_getR 0 8, zf_ild 6, zf_aldI 100, zf_bit zshl, zf_bit zor, zf_ist 3], 103),
  (103, [zf_inc 5 1, zf_go 38], 109),
  (109, [zf_inc 4 1, zf_go 29], 115),
  (115, [zf_ild 3, zf_reti], 117)]
theorem zT6_1 (h : Nat) : zTab h 6 1 7 (zt6_1 h) := zTab.mk (ret := (some .int)) (bl := xk6_1) (by decide +kernel) (by decide +kernel) rfl rfl
def zt6_2 (h : Nat) : ZB := [(0, [zf_ald 0, zf_getR 6 0, zf_ald 0, zf_getR 6 0, zf_getL 0 4, zf_lc 6364136223846793005, zf_lmul, zf_lc 1442695040888963407, zf_ladd, zf_putL 0 4, zf_ald 0, zf_getR 6 0, zf_getL 0 4, zf_ic 33, zf_lsh zlushr, zf_retl], 33)]
theorem zT6_2 (h : Nat) : zTab h 6 2 1 (zt6_2 h) := zTab.mk (ret := (some .long)) (bl := xk6_2) (by decide +kernel) (by decide +kernel) rfl rfl
def zt6_3 (h : Nat) : ZB := [(0, [zf_ic 0, zf_ist 2], 2),
  (2, [zf_ild 2, zf_ald 0, zf_getR 6 0, zf_getR 0 10, zf_getI 7 2, zf_ic2 .ge 43, zf_ald 0, zf_getR 6 0, zf_ild 2, zf_inv h 0 19 1, zf_ild 1, zf_ic2 .ne 37, zf_ald 0, zf_getR 6 0, zf_ild 2, zf_inv h 0 18 1, zf_reti], 37),
  (37, [zf_inc 2 1, zf_go 2], 43),
  (43, [zf_ic (-1), zf_reti], 45)]
theorem zT6_3 (h : Nat) : zTab h 6 3 3 (zt6_3 h) := zTab.mk (ret := (some .int)) (bl := xk6_3) (by decide +kernel) (by decide +kernel) rfl rfl
def zt6_4 (h : Nat) : ZB := [(0, [zf_ic 0, zf_ist 1, zf_ic 0, zf_ist 2], 4),
  (4, [zf_ild 2, zf_ald 0, zf_getR 6 0, zf_getR 0 11, zf_getI 7 2, zf_ic2 .ge 45, zf_ald 0, zf_getR 6 0, zf_ild 2, zf_inv h 0 13 1, zf_if .eq 39, zf_ald 0, zf_getR 6 6, zf_ild 1, zf_ild 2, zf_astI, zf_inc 1 1], 39),
  (39, [zf_inc 2 1, zf_go 4], 45),
  (45, [zf_ild 1, zf_ic 1, zf_sub, zf_ist 2], 49),
  (49, [zf_ild 2, zf_if .le 98, zf_ald 0, zf_inv h 6 2 0, zf_ild 2, zf_ic 1, zf_add, zf_i2l, zf_lrem, zf_l2i, zf_ist 3, zf_ald 0, zf_getR 6 6, zf_ild 2, zf_aldI 100, zf_ist 4, zf_ald 0, zf_getR 6 6, zf_ild 2, zf_ald 0, zf_getR 6 6, zf_ild 3, zf_aldI 100, zf_astI, zf_ald 0, zf_getR 6 6, zf_ild 3, zf_ild 4, zf_astI, zf_inc 2 (-1), zf_go 49], 98),
  (98, [zf_ic 0, zf_ist 2], 100),
  (100, [zf_ild 2, zf_ild 1, zf_ic2 .ge 137, zf_ald 0, zf_getR 6 0, zf_ald 0, zf_getR 6 6, zf_ild 2, zf_aldI 100, zf_inv h 0 13 1, zf_if .eq 131, zf_ald 0, zf_ald 0, zf_getR 6 6, zf_ild 2, zf_aldI 100, zf_inv h 6 10 1], 131),
  (131, [zf_inc 2 1, zf_go 100], 137),
  (137, [zf_ret], 138)]
theorem zT6_4 (h : Nat) : zTab h 6 4 5 (zt6_4 h) := zTab.mk (ret := none) (bl := xk6_4) (by decide +kernel) (by decide +kernel) rfl rfl
def zt6_5 (h : Nat) : ZB := [(0, [zf_ild 2, zf_ic (-1), zf_ic2 .eq 31, zf_ald 0, zf_getR 6 3, zf_ild 2, zf_ic 1, zf_astB, zf_ald 0, zf_getR 6 0, zf_getR 0 8, zf_ild 2, zf_ild 1, zf_astI, zf_ald 0, zf_getR 6 0, zf_ild 1, zf_ild 2, zf_inv h 0 1 2], 31),
  (31, [zf_ret], 32)]
theorem zT6_5 (h : Nat) : zTab h 6 5 3 (zt6_5 h) := zTab.mk (ret := none) (bl := xk6_5) (by decide +kernel) (by decide +kernel) rfl rfl
def zt6_7 (h : Nat) : ZB := [(0, [zf_ald 0, zf_getR 6 0, zf_getR 0 9, zf_ild 1, zf_aldI 100, zf_ic (-1), zf_ic2 .eq 39, zf_ald 0, zf_getR 6 0, zf_getR 0 8, zf_ild 1, zf_aldI 100, zf_ild 2, zf_ic2 .ne 39, zf_ald 0, zf_getR 6 3, zf_ild 1, zf_aldB, zf_if .ne 39, zf_ic 1, zf_go 40], 39),
  (39, [zf_ic 0], 40),
  (40, [zf_retz], 41)]
theorem zT6_7 (h : Nat) : zTab h 6 7 3 (zt6_7 h) := zTab.mk (ret := (some .boolean)) (bl := xk6_7) (by decide +kernel) (by decide +kernel) rfl rfl
def zt6_8 (h : Nat) : ZB := [(0, [zf_ald 0, zf_ild 1, zf_ic 0, zf_inv h 6 14 2, zf_ist 2, zf_ild 2, zf_ic (-1), zf_ic2 .ne 36, zf_ald 0, zf_getR 6 0, zf_getR 0 11, zf_ild 1, zf_ic 5, zf_ald 0, zf_ild 1, zf_inv h 6 1 1, zf_inv h 7 4 3, zf_ald 0, zf_ild 1, zf_ic 1, zf_inv h 6 14 2, zf_ist 2], 36),
  (36, [zf_ild 2, zf_ic (-1), zf_ic2 .ne 43, zf_ic (-1), zf_reti], 43),
  (43, [zf_ald 0, zf_getR 6 1, zf_ald 0, zf_getR 6 0, zf_ild 2, zf_inv h 0 18 1, zf_aldI 100, zf_ist 3, zf_ald 0, zf_ild 1, zf_ald 0, zf_getR 6 0, zf_ild 2, zf_inv h 0 18 1, zf_inv h 6 9 2, zf_ild 3, zf_reti], 72)]
theorem zT6_8 (h : Nat) : zTab h 6 8 4 (zt6_8 h) := zTab.mk (ret := (some .int)) (bl := xk6_8) (by decide +kernel) (by decide +kernel) rfl rfl
def zt6_9 (h : Nat) : ZB := [(0, [zf_ild 2, zf_ist 3, zf_ald 0, zf_getR 6 0, zf_ild 1, zf_inv h 0 27 1, zf_ist 4, zf_ic 0, zf_ist 5], 15),
  (15, [zf_ild 5, zf_ic 1024, zf_ic2 .ge 58, zf_ild 3, zf_ic (-1), zf_ic2 .eq 58, zf_ald 0, zf_getR 6 3, zf_ild 3, zf_aldB, zf_if .ne 58, zf_ald 0, zf_getR 6 0, zf_ild 1, zf_ild 3, zf_inv h 0 1 2, zf_ald 0, zf_ild 3, zf_inv h 6 0 1, zf_ist 3, zf_inc 5 1, zf_go 15], 58),
  (58, [zf_ald 0, zf_ild 1, zf_ild 4, zf_inv h 6 13 2, zf_ild 4, zf_ist 5], 69),
  (69, [zf_ild 5, zf_ald 0, zf_getR 6 0, zf_ild 1, zf_inv h 0 27 1, zf_ic2 .ge 123, zf_ald 0, zf_getR 6 3, zf_ald 0, zf_getR 6 0, zf_ild 1, zf_ild 5, zf_inv h 0 26 2, zf_ic 1, zf_astB, zf_ald 0, zf_getR 6 0, zf_getR 0 8, zf_ald 0, zf_getR 6 0, zf_ild 1, zf_ild 5, zf_inv h 0 26 2, zf_ild 1, zf_astI, zf_inc 5 1, zf_go 69], 123),
  (123, [zf_ret], 124)]
theorem zT6_9 (h : Nat) : zTab h 6 9 6 (zt6_9 h) := zTab.mk (ret := none) (bl := xk6_9) (by decide +kernel) (by decide +kernel) rfl rfl
def zt6_10 (h : Nat) : ZB := [(0, [zf_ic 0, zf_ist 2], 2),
  (2, [zf_ild 2, zf_ic 1024, zf_ic2 .ge 22, zf_ald 0, zf_getR 6 3, zf_ild 2, zf_ic 0, zf_astB, zf_inc 2 1, zf_go 2], 22),
  (22, [zf_ald 0, zf_ild 1, zf_ald 0, zf_ild 1, zf_inv h 6 3 1, zf_inv h 6 5 2, zf_lc 0, zf_lst 2, zf_ic 0, zf_ist 4, zf_ic 0, zf_ist 5], 40),
  (40, [zf_ild 5, zf_ic 5, zf_ic2 .ge 91, zf_ild 4, zf_if .ne 91, zf_ald 0, zf_ild 1, zf_inv h 6 18 1, zf_if .ne 91, zf_ald 0, zf_ild 1, zf_inv h 6 8 1, zf_ist 6, zf_ild 6, zf_ic (-1), zf_ic2 .ne 76, zf_ic 1, zf_go 77], 76),
  (76, [zf_ic 0], 77),
  (77, [zf_ist 4, zf_lld 2, zf_ild 6, zf_i2l, zf_ladd, zf_lst 2, zf_inc 5 1, zf_go 40], 91),
  (91, [zf_ild 4, zf_if .eq 107, zf_ald 0, zf_getR 6 0, zf_ild 1, zf_inv h 0 15 1, zf_go 147], 107),
  (107, [zf_ald 0, zf_getR 6 0, zf_getR 0 11, zf_ild 1, zf_ic 2, zf_ic 1, zf_inv h 7 4 3, zf_ald 0, zf_getR 6 0, zf_getR 0 11, zf_ild 1, zf_ic 3, zf_lld 2, zf_l2i, zf_inv h 7 4 3, zf_ald 0, zf_getR 6 0, zf_getR 0 11, zf_ild 1, zf_ic 5, zf_ic 0, zf_inv h 7 4 3], 147),
  (147, [zf_ret], 148)]
theorem zT6_10 (h : Nat) : zTab h 6 10 7 (zt6_10 h) := zTab.mk (ret := none) (bl := xk6_10) (by decide +kernel) (by decide +kernel) rfl rfl
def zt6_11 (h : Nat) : ZB := [(0, [zf_ic 0, zf_ist 3], 2),
  (2, [zf_ild 3, zf_ald 0, zf_getR 6 0, zf_getR 0 10, zf_getI 7 2, zf_ic2 .ge 57, zf_ald 0, zf_ald 0, zf_getR 6 0, zf_ild 3, zf_inv h 0 18 1, zf_ild 1, zf_inv h 6 7 2, zf_if .eq 51, zf_ald 0, zf_getR 6 1, zf_ald 0, zf_getR 6 0, zf_ild 3, zf_inv h 0 18 1, zf_aldI 100, zf_ild 2, zf_ic2 .ne 51, zf_ild 3, zf_reti], 51),
  (51, [zf_inc 3 1, zf_go 2], 57),
  (57, [zf_ic (-1), zf_reti], 59)]
theorem zT6_11 (h : Nat) : zTab h 6 11 4 (zt6_11 h) := zTab.mk (ret := (some .int)) (bl := xk6_11) (by decide +kernel) (by decide +kernel) rfl rfl
def zt6_12 (h : Nat) : ZB := [(0, [zf_ild 1, zf_ic (-1), zf_ic2 .eq 35, zf_ald 0, zf_getR 6 1, zf_ild 1, zf_aldI 100, zf_ic (-1), zf_ic2 .eq 25, zf_ald 0, zf_getR 6 1, zf_ild 1, zf_aldI 100, zf_ild 2, zf_ic2 .le 35], 25),
  (25, [zf_ald 0, zf_getI 6 5, zf_ic 7168, zf_ic2 .lt 36], 35),
  (35, [zf_ret], 36),
  (36, [zf_ald 0, zf_getR 6 1, zf_ild 1, zf_ild 2, zf_astI, zf_ild 2, zf_i2l, zf_lc 1024, zf_lmul, zf_ild 1, zf_i2l, zf_ladd, zf_lst 3, zf_ald 0, zf_getI 6 5, zf_ist 5, zf_ald 0, zf_dup, zf_getI 6 5, zf_ic 1, zf_add, zf_putI 6 5], 69),
  (69, [zf_ild 5, zf_if .le 119, zf_ald 0, zf_getR 6 4, zf_ild 5, zf_ic 1, zf_sub, zf_ic 2, zf_div, zf_aldL, zf_lld 3, zf_lcmp, zf_if .le 119, zf_ald 0, zf_getR 6 4, zf_ild 5, zf_ald 0, zf_getR 6 4, zf_ild 5, zf_ic 1, zf_sub, zf_ic 2, zf_div, zf_aldL, zf_astL, zf_ild 5, zf_ic 1, zf_sub, zf_ic 2, zf_div, zf_ist 5, zf_go 69], 119),
  (119, [zf_ald 0, zf_getR 6 4, zf_ild 5, zf_lld 3, zf_astL, zf_ret], 128)]
theorem zT6_12 (h : Nat) : zTab h 6 12 6 (zt6_12 h) := zTab.mk (ret := none) (bl := xk6_12) (by decide +kernel) (by decide +kernel) rfl rfl
def zt6_13 (h : Nat) : ZB := [(0, [zf_ic 0, zf_ist 3, zf_ild 2, zf_ist 4], 5),
  (5, [zf_ild 4, zf_ald 0, zf_getR 6 0, zf_ild 1, zf_inv h 0 27 1, zf_ic2 .ge 78, zf_ald 0, zf_getR 6 0, zf_ild 1, zf_ild 4, zf_inv h 0 26 2, zf_ist 5, zf_ald 0, zf_getR 6 0, zf_ild 5, zf_ild 1, zf_inv h 0 11 2, zf_if .eq 72, zf_ald 0, zf_getR 6 0, zf_getR 0 7, zf_ild 5, zf_dup2, zf_aldI 100, zf_ic 1, zf_add, zf_astI, zf_ild 3, zf_ic 1, zf_ald 0, zf_getR 6 0, zf_getR 0 8, zf_ild 5, zf_aldI 100, zf_bit zshl, zf_bit zor, zf_ist 3], 72),
  (72, [zf_inc 4 1, zf_go 5], 78),
  (78, [zf_ic 0, zf_ist 4], 81),
  (81, [zf_ild 4, zf_ic 12, zf_ic2 .ge 140, zf_ild 3, zf_ild 4, zf_bit zshr, zf_ic 1, zf_bit zand, zf_if .eq 134, zf_ald 0, zf_getR 6 0, zf_ild 4, zf_inv h 0 15 1, zf_ald 0, zf_getR 6 0, zf_getR 0 11, zf_ild 4, zf_ic 4, zf_ald 0, zf_getR 6 0, zf_getR 0 11, zf_ild 4, zf_ic 4, zf_inv h 7 1 2, zf_ic 1, zf_add, zf_inv h 7 4 3], 134),
  (134, [zf_inc 4 1, zf_go 81], 140),
  (140, [zf_ret], 141)]
theorem zT6_13 (h : Nat) : zTab h 6 13 6 (zt6_13 h) := zTab.mk (ret := none) (bl := xk6_13) (by decide +kernel) (by decide +kernel) rfl rfl
def zt6_14 (h : Nat) : ZB := [(0, [zf_ald 0, zf_getR 6 0, zf_getI 0 1, zf_ald 0, zf_getR 6 0, zf_getI 0 2, zf_mul, zf_ald 0, zf_getR 6 0, zf_getI 0 3, zf_mul, zf_ist 3, zf_ald 0, zf_ic 0, zf_putI 6 5, zf_ic 0, zf_ist 4], 32),
  (32, [zf_ild 4, zf_ild 3, zf_ic2 .ge 67, zf_ald 0, zf_getR 6 1, zf_ild 4, zf_ic (-1), zf_astI, zf_ald 0, zf_getR 6 2, zf_ild 4, zf_ald 0, zf_ild 4, zf_ild 1, zf_ild 2, zf_inv h 6 17 3, zf_astI, zf_inc 4 1, zf_go 32], 67),
  (67, [zf_ic 0, zf_ist 4], 70),
  (70, [zf_ild 4, zf_ald 0, zf_getR 6 0, zf_ild 1, zf_inv h 0 27 1, zf_ic2 .ge 104, zf_ald 0, zf_ald 0, zf_getR 6 0, zf_ild 1, zf_ild 4, zf_inv h 0 26 2, zf_ic 0, zf_inv h 6 12 2, zf_inc 4 1, zf_go 70], 104),
  (104, [zf_ic (-1), zf_ist 4, zf_ic 0, zf_ist 5], 110),
  (110, [zf_ild 5, zf_ic 7168, zf_ic2 .ge 214, zf_ald 0, zf_getI 6 5, zf_if .le 214, zf_ald 0, zf_inv h 6 16 0, zf_lst 6, zf_lld 6, zf_lc 1024, zf_ldiv, zf_l2i, zf_ist 8, zf_lld 6, zf_lc 1024, zf_lrem, zf_l2i, zf_ist 9, zf_ild 4, zf_ic (-1), zf_ic2 .eq 165, zf_ild 8, zf_ild 4, zf_ic2 .le 165, zf_go 214], 165),
  (165, [zf_ild 8, zf_ald 0, zf_getR 6 1, zf_ild 9, zf_aldI 100, zf_ic2 .ne 208, zf_ild 4, zf_ic (-1), zf_ic2 .ne 198, zf_ald 0, zf_ild 9, zf_ild 1, zf_inv h 6 7 2, zf_if .eq 198, zf_ild 8, zf_go 200], 198),
  (198, [zf_ild 4], 200),
  (200, [zf_ist 4, zf_ald 0, zf_ild 9, zf_inv h 6 15 1], 208),
  (208, [zf_inc 5 1, zf_go 110], 214),
  (214, [zf_ild 4, zf_ic (-1), zf_ic2 .ne 224, zf_ic (-1), zf_go 231], 224),
  (224, [zf_ald 0, zf_ild 1, zf_ild 4, zf_inv h 6 11 2], 231),
  (231, [zf_reti], 232)]
theorem zT6_14 (h : Nat) : zTab h 6 14 10 (zt6_14 h) := zTab.mk (ret := (some .int)) (bl := xk6_14) (by decide +kernel) (by decide +kernel) rfl rfl
def zt6_15 (h : Nat) : ZB := [(0, [zf_ic 0, zf_ist 2], 2),
  (2, [zf_ild 2, zf_ic 6, zf_ic2 .ge 67, zf_ald 0, zf_getR 6 0, zf_ild 1, zf_ild 2, zf_inv h 0 16 2, zf_ist 3, zf_ild 3, zf_ic (-1), zf_ic2 .eq 61, zf_ald 0, zf_getR 6 2, zf_ild 3, zf_aldI 100, zf_ic (-1), zf_ic2 .eq 61, zf_ald 0, zf_ild 3, zf_ald 0, zf_getR 6 1, zf_ild 1, zf_aldI 100, zf_ald 0, zf_getR 6 0, zf_ild 1, zf_ild 2, zf_inv h 0 24 2, zf_add, zf_ald 0, zf_getR 6 2, zf_ild 3, zf_aldI 100, zf_add, zf_inv h 6 12 2], 61),
  (61, [zf_inc 2 1, zf_go 2], 67),
  (67, [zf_ret], 68)]
theorem zT6_15 (h : Nat) : zTab h 6 15 4 (zt6_15 h) := zTab.mk (ret := none) (bl := xk6_15) (by decide +kernel) (by decide +kernel) rfl rfl
def zt6_16 (h : Nat) : ZB := [(0, [zf_ald 0, zf_getR 6 4, zf_ic 0, zf_aldL, zf_lst 1, zf_ald 0, zf_dup, zf_getI 6 5, zf_ic 1, zf_sub, zf_putI 6 5, zf_ald 0, zf_getR 6 4, zf_ald 0, zf_getI 6 5, zf_aldL, zf_lst 3, zf_ic 0, zf_ist 5, zf_ic 1, zf_ist 6], 33),
  (33, [zf_ild 6, zf_ald 0, zf_getI 6 5, zf_ic2 .ge 120, zf_ild 6, zf_ic 1, zf_add, zf_ald 0, zf_getI 6 5, zf_ic2 .ge 76, zf_ald 0, zf_getR 6 4, zf_ild 6, zf_ic 1, zf_add, zf_aldL, zf_ald 0, zf_getR 6 4, zf_ild 6, zf_aldL, zf_lcmp, zf_if .ge 76, zf_inc 6 1], 76),
  (76, [zf_ald 0, zf_getR 6 4, zf_ild 6, zf_aldL, zf_lld 3, zf_lcmp, zf_if .lt 91, zf_go 120], 91),
  (91, [zf_ald 0, zf_getR 6 4, zf_ild 5, zf_ald 0, zf_getR 6 4, zf_ild 6, zf_aldL, zf_astL, zf_ild 6, zf_ist 5, zf_ic 2, zf_ild 6, zf_mul, zf_ic 1, zf_add, zf_ist 6, zf_go 33], 120),
  (120, [zf_ald 0, zf_getR 6 4, zf_ild 5, zf_lld 3, zf_astL, zf_lld 1, zf_retl], 130)]
theorem zT6_16 (h : Nat) : zTab h 6 16 7 (zt6_16 h) := zTab.mk (ret := (some .long)) (bl := xk6_16) (by decide +kernel) (by decide +kernel) rfl rfl
def zt6_17 (h : Nat) : ZB := [(0, [zf_ald 0, zf_getR 6 0, zf_ild 1, zf_ild 2, zf_inv h 0 11 2, zf_ist 4, zf_ald 0, zf_getR 6 0, zf_getR 0 6, zf_ild 1, zf_aldB, zf_if .ne 45, zf_ild 4, zf_if .eq 47, zf_ild 3, zf_if .eq 45, zf_ald 0, zf_getR 6 0, zf_getR 0 9, zf_ild 1, zf_aldI 100, zf_ic (-1), zf_ic2 .eq 47], 45),
  (45, [zf_ic (-1), zf_reti], 47),
  (47, [zf_ald 0, zf_getR 6 0, zf_ild 1, zf_ild 2, zf_inv h 0 7 2, zf_ild 4, zf_if .eq 66, zf_ic 100, zf_go 67], 66),
  (66, [zf_ic 0], 67),
  (67, [zf_add, zf_reti], 69)]
theorem zT6_17 (h : Nat) : zTab h 6 17 5 (zt6_17 h) := zTab.mk (ret := (some .int)) (bl := xk6_17) (by decide +kernel) (by decide +kernel) rfl rfl
def zt6_18 (h : Nat) : ZB := [(0, [zf_ic 1, zf_ist 2, zf_ic 0, zf_ist 3], 4),
  (4, [zf_ild 3, zf_ald 0, zf_getR 6 0, zf_getR 0 10, zf_getI 7 2, zf_ic2 .ge 50, zf_ild 2, zf_if .eq 50, zf_ald 0, zf_ald 0, zf_getR 6 0, zf_ild 3, zf_inv h 0 18 1, zf_ild 1, zf_inv h 6 7 2, zf_if .ne 42, zf_ic 1, zf_go 43], 42),
  (42, [zf_ic 0], 43),
  (43, [zf_ist 2, zf_inc 3 1, zf_go 4], 50),
  (50, [zf_ild 2, zf_retz], 52)]
theorem zT6_18 (h : Nat) : zTab h 6 18 4 (zt6_18 h) := zTab.mk (ret := (some .boolean)) (bl := xk6_18) (by decide +kernel) (by decide +kernel) rfl rfl
def zt7_0 (h : Nat) : ZB := [(0, [zf_ald 0, zf_getI 7 2, zf_ald 0, zf_getI 7 1, zf_ic2 .lt 13, zf_ic (-1), zf_reti], 13),
  (13, [zf_ald 0, zf_getI 7 2, zf_ic 6, zf_mul, zf_ist 6, zf_ald 0, zf_getR 7 0, zf_ild 6, zf_ild 1, zf_astI, zf_ald 0, zf_getR 7 0, zf_ild 6, zf_ic 1, zf_add, zf_ild 2, zf_astI, zf_ald 0, zf_getR 7 0, zf_ild 6, zf_ic 2, zf_add, zf_ild 3, zf_astI, zf_ald 0, zf_getR 7 0, zf_ild 6, zf_ic 3, zf_add, zf_ild 4, zf_astI, zf_ald 0, zf_getR 7 0, zf_ild 6, zf_ic 4, zf_add, zf_ild 5, zf_astI, zf_ald 0, zf_getR 7 0, zf_ild 6, zf_ic 5, zf_add, zf_ic 0, zf_astI, zf_ald 0, zf_dup, zf_getI 7 2, zf_ic 1, zf_add, zf_putI 7 2, zf_ald 0, zf_getI 7 2, zf_ic 1, zf_sub, zf_reti], 99)]
theorem zT7_0 (h : Nat) : zTab h 7 0 7 (zt7_0 h) := zTab.mk (ret := (some .int)) (bl := xk7_0) (by decide +kernel) (by decide +kernel) rfl rfl
def zt7_1 (h : Nat) : ZB := [(0, [zf_ild 1, zf_if .lt 26, zf_ild 1, zf_ald 0, zf_getI 7 2, zf_ic2 .ge 26, zf_ild 2, zf_if .lt 26, zf_ild 2, zf_ic 6, zf_ic2 .ge 26, zf_ic 1, zf_go 27], 26),
  (26, [zf_ic 0], 27),
  (27, [zf_ist 3, zf_ild 3, zf_if .eq 46, zf_ald 0, zf_getR 7 0, zf_ild 1, zf_ic 6, zf_mul, zf_ild 2, zf_add, zf_aldI 100, zf_go 47], 46),
  (46, [zf_ic (-1)], 47),
  (47, [zf_reti], 48)]
theorem zT7_1 (h : Nat) : zTab h 7 1 4 (zt7_1 h) := zTab.mk (ret := (some .int)) (bl := xk7_1) (by decide +kernel) (by decide +kernel) rfl rfl
def zt7_2 (h : Nat) : ZB := [(0, [zf_ald 0, zf_getI 7 2, zf_ald 0, zf_getI 7 1, zf_ic2 .ge 15, zf_ic 1, zf_go 16], 15),
  (15, [zf_ic 0], 16),
  (16, [zf_retz], 17)]
theorem zT7_2 (h : Nat) : zTab h 7 2 1 (zt7_2 h) := zTab.mk (ret := (some .boolean)) (bl := xk7_2) (by decide +kernel) (by decide +kernel) rfl rfl
def zt7_4 (h : Nat) : ZB := [(0, [zf_ild 1, zf_if .lt 34, zf_ild 1, zf_ald 0, zf_getI 7 2, zf_ic2 .ge 34, zf_ild 2, zf_if .lt 34, zf_ild 2, zf_ic 6, zf_ic2 .ge 34, zf_ald 0, zf_getR 7 0, zf_ild 1, zf_ic 6, zf_mul, zf_ild 2, zf_add, zf_ild 3, zf_astI], 34),
  (34, [zf_ret], 35)]
theorem zT7_4 (h : Nat) : zTab h 7 4 4 (zt7_4 h) := zTab.mk (ret := none) (bl := xk7_4) (by decide +kernel) (by decide +kernel) rfl rfl
def zt8_0 (h : Nat) : ZB := [(0, [zf_ild 1, zf_ist 2], 2),
  (2, [zf_ild 2, zf_ald 0, zf_getI 8 1, zf_ic2 .ge 27, zf_ald 0, zf_getR 8 0, zf_ild 2, zf_aldI 104, zf_ic 59, zf_ic2 .eq 27, zf_inc 2 1, zf_go 2], 27),
  (27, [zf_ild 2, zf_ic 1, zf_add, zf_reti], 31)]
theorem zT8_0 (h : Nat) : zTab h 8 0 3 (zt8_0 h) := zTab.mk (ret := (some .int)) (bl := xk8_0) (by decide +kernel) (by decide +kernel) rfl rfl
def zt8_1 (h : Nat) : ZB := [(0, [zf_ild 1, zf_if .lt 21, zf_ild 1, zf_ald 0, zf_getI 8 1, zf_ic2 .ge 21, zf_ald 0, zf_getR 8 5, zf_ild 1, zf_aldI 100, zf_go 25], 21),
  (21, [zf_ald 0, zf_getI 8 1], 25),
  (25, [zf_reti], 26)]
theorem zT8_1 (h : Nat) : zTab h 8 1 2 (zt8_1 h) := zTab.mk (ret := (some .int)) (bl := xk8_1) (by decide +kernel) (by decide +kernel) rfl rfl
def zt8_2 (h : Nat) : ZB := [(0, [zf_ald 0, zf_getI 8 3, zf_ic (-1), zf_ic2 .ne 13, zf_ald 0, zf_ild 1, zf_putI 8 3], 13),
  (13, [zf_ret], 14)]
theorem zT8_2 (h : Nat) : zTab h 8 2 2 (zt8_2 h) := zTab.mk (ret := none) (bl := xk8_2) (by decide +kernel) (by decide +kernel) rfl rfl
def zt8_3 (h : Nat) : ZB := [(0, [zf_ald 0, zf_ild 2, zf_ic 400, zf_min, zf_ald 1, zf_len, zf_min, zf_putI 8 1, zf_ic 0, zf_ist 3], 18),
  (18, [zf_ild 3, zf_ald 0, zf_getI 8 1, zf_ic2 .ge 41, zf_ald 0, zf_getR 8 0, zf_ild 3, zf_ald 1, zf_ild 3, zf_aldI 104, zf_astC, zf_inc 3 1, zf_go 18], 41),
  (41, [zf_ald 0, zf_ic 0, zf_putI 8 2, zf_ald 0, zf_ic (-1), zf_putI 8 3, zf_ald 0, zf_ic 0, zf_putI 8 4, zf_ic 0, zf_ist 3], 58),
  (58, [zf_ild 3, zf_ic 26, zf_ic2 .ge 77, zf_ald 0, zf_getR 8 6, zf_ild 3, zf_ic (-1), zf_astI, zf_inc 3 1, zf_go 58], 77),
  (77, [zf_ald 0, zf_ic 0, zf_ic (-1), zf_inv h 8 20 2, zf_ald 0, zf_getI 8 3, zf_reti], 88)]
theorem zT8_3 (h : Nat) : zTab h 8 3 4 (zt8_3 h) := zTab.mk (ret := (some .int)) (bl := xk8_3) (by decide +kernel) (by decide +kernel) rfl rfl
def zt8_4 (h : Nat) : ZB := [(0, [zf_ild 1, zf_inst h 8 7 1, zf_if .eq 19, zf_ald 0, zf_getR 8 6, zf_ild 1, zf_ic 65, zf_sub, zf_aldI 100, zf_go 20], 19),
  (19, [zf_ic (-1)], 20),
  (20, [zf_reti], 21)]
theorem zT8_4 (h : Nat) : zTab h 8 4 2 (zt8_4 h) := zTab.mk (ret := (some .int)) (bl := xk8_4) (by decide +kernel) (by decide +kernel) rfl rfl
def zt8_6 (h : Nat) : ZB := [(0, [zf_ild 0, zf_ic 48, zf_ic2 .lt 16, zf_ild 0, zf_ic 57, zf_ic2 .gt 16, zf_ic 1, zf_go 17], 16),
  (16, [zf_ic 0], 17),
  (17, [zf_retz], 18)]
theorem zT8_6 (h : Nat) : zTab h 8 6 1 (zt8_6 h) := zTab.mk (ret := (some .boolean)) (bl := xk8_6) (by decide +kernel) (by decide +kernel) rfl rfl
def zt8_7 (h : Nat) : ZB := [(0, [zf_ild 0, zf_ic 65, zf_ic2 .lt 16, zf_ild 0, zf_ic 90, zf_ic2 .gt 16, zf_ic 1, zf_go 17], 16),
  (16, [zf_ic 0], 17),
  (17, [zf_retz], 18)]
theorem zT8_7 (h : Nat) : zTab h 8 7 1 (zt8_7 h) := zTab.mk (ret := (some .boolean)) (bl := xk8_7) (by decide +kernel) (by decide +kernel) rfl rfl
def zt8_8 (h : Nat) : ZB := [(0, [zf_ald 0, zf_getI 8 3, zf_ic (-1), zf_ic2 .ne 24, zf_ald 0, zf_ald 0, zf_getI 8 2, zf_inv h 8 10 1, zf_ild 1, zf_ic2 .ne 24, zf_ic 1, zf_go 25], 24),
  (24, [zf_ic 0], 25),
  (25, [zf_retz], 26)]
theorem zT8_8 (h : Nat) : zTab h 8 8 2 (zt8_8 h) := zTab.mk (ret := (some .boolean)) (bl := xk8_8) (by decide +kernel) (by decide +kernel) rfl rfl
def zt8_9 (h : Nat) : ZB := [(0, [zf_ild 0, zf_ic 97, zf_ic2 .lt 16, zf_ild 0, zf_ic 122, zf_ic2 .gt 16, zf_ic 1, zf_go 17], 16),
  (16, [zf_ic 0], 17),
  (17, [zf_retz], 18)]
theorem zT8_9 (h : Nat) : zTab h 8 9 1 (zt8_9 h) := zTab.mk (ret := (some .boolean)) (bl := xk8_9) (by decide +kernel) (by decide +kernel) rfl rfl
def zt8_10 (h : Nat) : ZB := [(0, [zf_ild 1, zf_if .lt 21, zf_ild 1, zf_ald 0, zf_getI 8 1, zf_ic2 .ge 21, zf_ald 0, zf_getR 8 0, zf_ild 1, zf_aldI 104, zf_go 22], 21),
  (21, [zf_ic (-1)], 22),
  (22, [zf_reti], 23)]
theorem zT8_10 (h : Nat) : zTab h 8 10 2 (zt8_10 h) := zTab.mk (ret := (some .int)) (bl := xk8_10) (by decide +kernel) (by decide +kernel) rfl rfl
def zt8_11 (h : Nat) : ZB := [(0, [zf_ald 0, zf_getI 8 3, zf_ic (-1), zf_ic2 .ne 19, zf_ald 0, zf_ald 0, zf_getI 8 2, zf_inv h 8 10 1, zf_go 20], 19),
  (19, [zf_ic (-1)], 20),
  (20, [zf_ist 2, zf_ild 2, zf_inst h 8 6 1, zf_if .eq 68, zf_ic 0, zf_ist 3], 30),
  (30, [zf_ild 3, zf_ic 4, zf_ic2 .ge 65, zf_ald 0, zf_ald 0, zf_getI 8 2, zf_inv h 8 10 1, zf_inst h 8 6 1, zf_if .eq 65, zf_ald 0, zf_dup, zf_getI 8 2, zf_ic 1, zf_add, zf_putI 8 2, zf_inc 3 1, zf_go 30], 65),
  (65, [zf_go 142], 68),
  (68, [zf_ild 2, zf_inst h 8 9 1, zf_if .ne 81, zf_ild 2, zf_ic 35, zf_ic2 .ne 94], 81),
  (81, [zf_ald 0, zf_dup, zf_getI 8 2, zf_ic 1, zf_add, zf_putI 8 2, zf_go 142], 94),
  (94, [zf_ild 1, zf_ic 3, zf_ic2 .ge 134, zf_ild 2, zf_ic 45, zf_ic2 .eq 123, zf_ild 2, zf_ic 40, zf_ic2 .eq 123, zf_ild 2, zf_ic 64, zf_ic2 .eq 123, zf_ild 2, zf_ic 39, zf_ic2 .ne 134], 123),
  (123, [zf_ald 0, zf_ild 2, zf_ild 1, zf_ic 1, zf_add, zf_inv h 8 14 2, zf_go 142], 134),
  (134, [zf_ald 0, zf_ald 0, zf_getI 8 2, zf_inv h 8 2 1], 142),
  (142, [zf_ret], 143)]
theorem zT8_11 (h : Nat) : zTab h 8 11 4 (zt8_11 h) := zTab.mk (ret := none) (bl := xk8_11) (by decide +kernel) (by decide +kernel) rfl rfl
def zt8_12 (h : Nat) : ZB := [(0, [zf_ald 0, zf_ild 2, zf_inv h 8 8 1, zf_if .eq 13, zf_ild 1, zf_ic 2, zf_ic2 .lt 22], 13),
  (13, [zf_ald 0, zf_ald 0, zf_getI 8 2, zf_inv h 8 2 1, zf_ret], 22),
  (22, [zf_ald 0, zf_getI 8 2, zf_ist 4, zf_ald 0, zf_dup, zf_getI 8 2, zf_ic 1, zf_add, zf_putI 8 2, zf_ald 0, zf_ild 1, zf_ic 1, zf_add, zf_ild 3, zf_inv h 8 20 2, zf_ald 0, zf_getR 8 5, zf_ild 4, zf_ald 0, zf_getI 8 2, zf_astI, zf_ald 0, zf_ild 3, zf_inv h 8 22 1, zf_ret], 63)]
theorem zT8_12 (h : Nat) : zTab h 8 12 5 (zt8_12 h) := zTab.mk (ret := none) (bl := xk8_12) (by decide +kernel) (by decide +kernel) rfl rfl
def zt8_13 (h : Nat) : ZB := [(0, [zf_ild 1, zf_ic 91, zf_ic2 .ne 16, zf_ald 0, zf_ild 2, zf_ic 91, zf_ic 93, zf_inv h 8 12 3, zf_ret], 16),
  (16, [zf_ald 0, zf_getI 8 2, zf_ist 3, zf_ald 0, zf_dup, zf_getI 8 2, zf_ic 1, zf_add, zf_putI 8 2, zf_ild 1, zf_ic 58, zf_ic2 .ne 44, zf_ald 0, zf_ild 2, zf_ild 3, zf_inv h 8 17 2, zf_ret], 44),
  (44, [zf_ild 1, zf_ic 126, zf_ic2 .eq 55, zf_ald 0, zf_ic 0, zf_inv h 8 15 1], 55),
  (55, [zf_ald 0, zf_ild 2, zf_ic 123, zf_ic 125, zf_inv h 8 12 3, zf_ild 1, zf_ic 126, zf_ic2 .eq 85, zf_ild 1, zf_ic 63, zf_ic2 .ne 94, zf_ald 0, zf_ic 123, zf_inv h 8 8 1, zf_if .eq 94], 85),
  (85, [zf_ald 0, zf_ild 2, zf_ic 123, zf_ic 125, zf_inv h 8 12 3], 94),
  (94, [zf_ret], 95)]
theorem zT8_13 (h : Nat) : zTab h 8 13 4 (zt8_13 h) := zTab.mk (ret := none) (bl := xk8_13) (by decide +kernel) (by decide +kernel) rfl rfl
def zt8_14 (h : Nat) : ZB := [(0, [zf_ald 0, zf_dup, zf_getI 8 2, zf_ic 1, zf_add, zf_putI 8 2, zf_ild 1, zf_ic 40, zf_ic2 .ne 28, zf_ald 0, zf_ild 2, zf_inv h 8 15 1, zf_ald 0, zf_ic 41, zf_inv h 8 22 1, zf_ret], 28),
  (28, [zf_ald 0, zf_ild 2, zf_inv h 8 11 1, zf_ild 1, zf_ic 64, zf_ic2 .ne 43, zf_ald 0, zf_inv h 8 16 0], 43),
  (43, [zf_ret], 44)]
theorem zT8_14 (h : Nat) : zTab h 8 14 3 (zt8_14 h) := zTab.mk (ret := none) (bl := xk8_14) (by decide +kernel) (by decide +kernel) rfl rfl
def zt8_15 (h : Nat) : ZB := [(0, [zf_ald 0, zf_ild 1, zf_inv h 8 21 1, zf_ald 0, zf_ic 60, zf_inv h 8 8 1, zf_if .ne 23, zf_ald 0, zf_ic 61, zf_inv h 8 8 1, zf_if .eq 38], 23),
  (23, [zf_ald 0, zf_dup, zf_getI 8 2, zf_ic 1, zf_add, zf_putI 8 2, zf_ald 0, zf_ild 1, zf_inv h 8 21 1], 38),
  (38, [zf_ret], 39)]
theorem zT8_15 (h : Nat) : zTab h 8 15 2 (zt8_15 h) := zTab.mk (ret := none) (bl := xk8_15) (by decide +kernel) (by decide +kernel) rfl rfl
def zt8_16 (h : Nat) : ZB := [(0, [zf_ald 0, zf_ic 58, zf_inv h 8 22 1, zf_ald 0, zf_ald 0, zf_getI 8 2, zf_inv h 8 10 1, zf_ist 1, zf_ild 1, zf_ic 48, zf_ic2 .lt 40, zf_ild 1, zf_ic 53, zf_ic2 .gt 40, zf_ald 0, zf_dup, zf_getI 8 2, zf_ic 1, zf_add, zf_putI 8 2, zf_go 48], 40),
  (40, [zf_ald 0, zf_ald 0, zf_getI 8 2, zf_inv h 8 2 1], 48),
  (48, [zf_ret], 49)]
theorem zT8_16 (h : Nat) : zTab h 8 16 2 (zt8_16 h) := zTab.mk (ret := none) (bl := xk8_16) (by decide +kernel) (by decide +kernel) rfl rfl
def zt8_17 (h : Nat) : ZB := [(0, [zf_ald 0, zf_ald 0, zf_getI 8 2, zf_inv h 8 10 1, zf_ist 3, zf_ild 3, zf_inst h 8 7 1, zf_if .ne 25, zf_ald 0, zf_ald 0, zf_getI 8 2, zf_inv h 8 2 1, zf_ret], 25),
  (25, [zf_ild 1, zf_if .gt 38, zf_ald 0, zf_ild 3, zf_inv h 8 4 1, zf_ic (-1), zf_ic2 .eq 44], 38),
  (38, [zf_ald 0, zf_ild 2, zf_inv h 8 2 1, zf_ret], 44),
  (44, [zf_ald 0, zf_dup, zf_getI 8 2, zf_ic 1, zf_add, zf_putI 8 2, zf_ald 0, zf_getR 8 6, zf_ild 3, zf_ic 65, zf_sub, zf_ald 0, zf_getI 8 2, zf_astI, zf_ald 0, zf_ild 1, zf_ic 123, zf_ic 125, zf_inv h 8 12 3, zf_ret], 77)]
theorem zT8_17 (h : Nat) : zTab h 8 17 4 (zt8_17 h) := zTab.mk (ret := none) (bl := xk8_17) (by decide +kernel) (by decide +kernel) rfl rfl
def zt8_18 (h : Nat) : ZB := [(0, [zf_ald 0, zf_ild 1, zf_inv h 8 11 1, zf_ic 0, zf_ist 2], 7),
  (7, [zf_ild 2, zf_ic 400, zf_ic2 .ge 62, zf_ald 0, zf_ic 42, zf_inv h 8 8 1, zf_if .ne 41, zf_ald 0, zf_ic 47, zf_inv h 8 8 1, zf_if .ne 41, zf_ald 0, zf_ic 37, zf_inv h 8 8 1, zf_if .eq 62], 41),
  (41, [zf_ald 0, zf_dup, zf_getI 8 2, zf_ic 1, zf_add, zf_putI 8 2, zf_ald 0, zf_ild 1, zf_inv h 8 11 1, zf_inc 2 1, zf_go 7], 62),
  (62, [zf_ret], 63)]
theorem zT8_18 (h : Nat) : zTab h 8 18 3 (zt8_18 h) := zTab.mk (ret := none) (bl := xk8_18) (by decide +kernel) (by decide +kernel) rfl rfl
def zt8_19 (h : Nat) : ZB := [(0, [zf_ald 0, zf_ald 0, zf_getI 8 2, zf_inv h 8 10 1, zf_ist 2, zf_ald 0, zf_getI 8 4, zf_ic 100, zf_ic2 .lt 26, zf_ald 0, zf_ald 0, zf_getI 8 2, zf_inv h 8 2 1], 26),
  (26, [zf_ald 0, zf_dup, zf_getI 8 4, zf_ic 1, zf_add, zf_putI 8 4, zf_ild 2, zf_ic 63, zf_ic2 .eq 66, zf_ild 2, zf_ic 42, zf_ic2 .eq 66, zf_ild 2, zf_ic 126, zf_ic2 .eq 66, zf_ild 2, zf_ic 91, zf_ic2 .eq 66, zf_ild 2, zf_ic 58, zf_ic2 .ne 73], 66),
  (66, [zf_ald 0, zf_ild 2, zf_ild 1, zf_inv h 8 13 2, zf_ret], 73),
  (73, [zf_ild 2, zf_inst h 8 9 1, zf_if .eq 104, zf_ald 0, zf_dup, zf_getI 8 2, zf_ic 1, zf_add, zf_putI 8 2, zf_ald 0, zf_ic 61, zf_inv h 8 22 1, zf_ald 0, zf_ic 0, zf_inv h 8 15 1, zf_go 237], 104),
  (104, [zf_ild 2, zf_inst h 8 7 1, zf_if .eq 124, zf_ald 0, zf_dup, zf_getI 8 2, zf_ic 1, zf_add, zf_putI 8 2, zf_go 237], 124),
  (124, [zf_ild 2, zf_ic 64, zf_ic2 .eq 136, zf_ild 2, zf_ic 39, zf_ic2 .ne 175], 136),
  (136, [zf_ald 0, zf_dup, zf_getI 8 2, zf_ic 1, zf_add, zf_putI 8 2, zf_ald 0, zf_ic 0, zf_inv h 8 11 1, zf_ild 2, zf_ic 64, zf_ic2 .ne 161, zf_ald 0, zf_inv h 8 16 0], 161),
  (161, [zf_ald 0, zf_ic 61, zf_inv h 8 22 1, zf_ald 0, zf_ic 0, zf_inv h 8 15 1, zf_go 237], 175),
  (175, [zf_ild 2, zf_ic 33, zf_ic2 .eq 211, zf_ild 2, zf_ic 94, zf_ic2 .eq 211, zf_ild 2, zf_ic 43, zf_ic2 .eq 211, zf_ild 2, zf_ic 38, zf_ic2 .eq 211, zf_ild 2, zf_ic 124, zf_ic2 .eq 211, zf_ild 2, zf_ic 60, zf_ic2 .ne 229], 211),
  (211, [zf_ald 0, zf_dup, zf_getI 8 2, zf_ic 1, zf_add, zf_putI 8 2, zf_ald 0, zf_ic 0, zf_inv h 8 15 1, zf_go 237], 229),
  (229, [zf_ald 0, zf_ald 0, zf_getI 8 2, zf_inv h 8 2 1], 237),
  (237, [zf_ald 0, zf_ic 59, zf_inv h 8 22 1, zf_ret], 244)]
theorem zT8_19 (h : Nat) : zTab h 8 19 3 (zt8_19 h) := zTab.mk (ret := none) (bl := xk8_19) (by decide +kernel) (by decide +kernel) rfl rfl
def zt8_20 (h : Nat) : ZB := [(0, [zf_ic 0, zf_ist 3], 2),
  (2, [zf_ild 3, zf_ic 400, zf_ic2 .gt 66, zf_ald 0, zf_getI 8 3, zf_ic (-1), zf_ic2 .ne 66, zf_ald 0, zf_ald 0, zf_getI 8 2, zf_inv h 8 10 1, zf_ild 2, zf_ic2 .eq 66, zf_ald 0, zf_ald 0, zf_getI 8 2, zf_inv h 8 10 1, zf_ic 10, zf_ic2 .ne 55, zf_ald 0, zf_dup, zf_getI 8 2, zf_ic 1, zf_add, zf_putI 8 2, zf_go 60], 55),
  (55, [zf_ald 0, zf_ild 1, zf_inv h 8 19 1], 60),
  (60, [zf_inc 3 1, zf_go 2], 66),
  (66, [zf_ret], 67)]
theorem zT8_20 (h : Nat) : zTab h 8 20 4 (zt8_20 h) := zTab.mk (ret := none) (bl := xk8_20) (by decide +kernel) (by decide +kernel) rfl rfl
def zt8_21 (h : Nat) : ZB := [(0, [zf_ald 0, zf_ild 1, zf_inv h 8 18 1, zf_ic 0, zf_ist 2], 7),
  (7, [zf_ild 2, zf_ic 400, zf_ic2 .ge 53, zf_ald 0, zf_ic 43, zf_inv h 8 8 1, zf_if .ne 32, zf_ald 0, zf_ic 45, zf_inv h 8 8 1, zf_if .eq 53], 32),
  (32, [zf_ald 0, zf_dup, zf_getI 8 2, zf_ic 1, zf_add, zf_putI 8 2, zf_ald 0, zf_ild 1, zf_inv h 8 18 1, zf_inc 2 1, zf_go 7], 53),
  (53, [zf_ret], 54)]
theorem zT8_21 (h : Nat) : zTab h 8 21 3 (zt8_21 h) := zTab.mk (ret := none) (bl := xk8_21) (by decide +kernel) (by decide +kernel) rfl rfl
def zt8_22 (h : Nat) : ZB := [(0, [zf_ald 0, zf_getI 8 3, zf_ic (-1), zf_ic2 .ne 33, zf_ald 0, zf_ald 0, zf_getI 8 2, zf_inv h 8 10 1, zf_ild 1, zf_ic2 .ne 33, zf_ald 0, zf_dup, zf_getI 8 2, zf_ic 1, zf_add, zf_putI 8 2, zf_go 41], 33),
  (33, [zf_ald 0, zf_ald 0, zf_getI 8 2, zf_inv h 8 2 1], 41),
  (41, [zf_ret], 42)]
theorem zT8_22 (h : Nat) : zTab h 8 22 2 (zt8_22 h) := zTab.mk (ret := none) (bl := xk8_22) (by decide +kernel) (by decide +kernel) rfl rfl
def zt9_0 (h : Nat) : ZB := [(0, [zf_ild 1, zf_ist 3, zf_ic 0, zf_ist 4], 5),
  (5, [zf_ild 4, zf_ic 200, zf_ic2 .ge 46, zf_ild 3, zf_ic (-1), zf_ic2 .eq 46, zf_ald 0, zf_getR 9 7, zf_getR 2 5, zf_ild 3, zf_aldI 100, zf_ild 2, zf_ic2 .le 46, zf_ald 0, zf_getR 9 7, zf_ild 3, zf_inv h 2 20 1, zf_ist 3, zf_inc 4 1, zf_go 5], 46),
  (46, [zf_ild 3, zf_reti], 48)]
theorem zT9_0 (h : Nat) : zTab h 9 0 5 (zt9_0 h) := zTab.mk (ret := (some .int)) (bl := xk9_0) (by decide +kernel) (by decide +kernel) rfl rfl
def zt9_1 (h : Nat) : ZB := [(0, [zf_ild 1, zf_ist 2, zf_ic 0, zf_ist 3], 4),
  (4, [zf_ild 3, zf_ald 0, zf_getI 9 1, zf_ic2 .gt 95, zf_ald 0, zf_getI 9 3, zf_ic (-1), zf_ic2 .ne 95, zf_ild 2, zf_ic (-1), zf_ic2 .eq 95, zf_ald 0, zf_inv h 9 25 0, zf_ald 0, zf_inv h 9 14 0, zf_ic 40, zf_ic2 .ne 40, zf_ild 2, zf_reti], 40),
  (40, [zf_ald 0, zf_inv h 9 14 0, zf_ic 41, zf_ic2 .ne 81, zf_ald 0, zf_dup, zf_getI 9 2, zf_ic 1, zf_add, zf_putI 9 2, zf_ald 0, zf_dup, zf_getI 9 4, zf_ic 1, zf_sub, zf_putI 9 4, zf_ald 0, zf_getR 9 7, zf_ild 2, zf_inv h 2 20 1, zf_ist 2, zf_go 89], 81),
  (81, [zf_ald 0, zf_ald 0, zf_getI 9 2, zf_inv h 9 2 1], 89),
  (89, [zf_inc 3 1, zf_go 4], 95),
  (95, [zf_ild 2, zf_reti], 97)]
theorem zT9_1 (h : Nat) : zTab h 9 1 4 (zt9_1 h) := zTab.mk (ret := (some .int)) (bl := xk9_1) (by decide +kernel) (by decide +kernel) rfl rfl
def zt9_2 (h : Nat) : ZB := [(0, [zf_ald 0, zf_getI 9 3, zf_ic (-1), zf_ic2 .ne 13, zf_ald 0, zf_ild 1, zf_putI 9 3], 13),
  (13, [zf_ret], 14)]
theorem zT9_2 (h : Nat) : zTab h 9 2 2 (zt9_2 h) := zTab.mk (ret := none) (bl := xk9_2) (by decide +kernel) (by decide +kernel) rfl rfl
def zt9_3 (h : Nat) : ZB := [(0, [zf_ald 0, zf_ald 1, zf_putR 9 0, zf_ald 0, zf_ild 2, zf_ald 1, zf_len, zf_min, zf_putI 9 1, zf_ald 0, zf_ic 0, zf_putI 9 2, zf_ald 0, zf_ic (-1), zf_putI 9 3, zf_ald 0, zf_ic 0, zf_putI 9 4, zf_ald 0, zf_ic 1, zf_putI 9 5, zf_ald 0, zf_ild 3, zf_if .ne 44, zf_ic 1, zf_go 45], 44),
  (44, [zf_ic 0], 45),
  (45, [zf_putZ 9 6, zf_ald 0, zf_ald 4, zf_putR 9 7, zf_ald 0, zf_getR 9 7, zf_ild 3, zf_inv h 2 2 1, zf_ald 0, zf_getI 9 6, zf_if .eq 76, zf_ald 0, zf_inv h 9 19 0, zf_go 80], 76),
  (76, [zf_ald 0, zf_inv h 9 17 0], 80),
  (80, [zf_ald 0, zf_getI 9 3, zf_reti], 85)]
theorem zT9_3 (h : Nat) : zTab h 9 3 5 (zt9_3 h) := zTab.mk (ret := (some .int)) (bl := xk9_3) (by decide +kernel) (by decide +kernel) rfl rfl
def zt9_4 (h : Nat) : ZB := [(0, [zf_ild 0, zf_lk 60 [(65, 52), (75, 48), (78, 56), (86, 44)]], 44),
  (44, [zf_lc 3, zf_retl], 48),
  (48, [zf_lc 9, zf_retl], 52),
  (52, [zf_lc 360, zf_retl], 56),
  (56, [zf_lc 1000000000, zf_retl], 60),
  (60, [zf_lc 9999, zf_retl], 64)]
theorem zT9_4 (h : Nat) : zTab h 9 4 1 (zt9_4 h) := zTab.mk (ret := (some .long)) (bl := xk9_4) (by decide +kernel) (by decide +kernel) rfl rfl
def zt9_6 (h : Nat) : ZB := [(0, [zf_ic 1, zf_ist 3, zf_ic 0, zf_ist 4], 5),
  (5, [zf_ild 4, zf_ild 2, zf_ic2 .gt 52, zf_ild 3, zf_if .eq 52, zf_ild 1, zf_ild 4, zf_add, zf_ald 0, zf_getI 9 1, zf_ic2 .ge 44, zf_ald 0, zf_getR 9 0, zf_ild 1, zf_ild 4, zf_add, zf_aldI 104, zf_ic 46, zf_ic2 .ne 44, zf_ic 1, zf_go 45], 44),
  (44, [zf_ic 0], 45),
  (45, [zf_ist 3, zf_inc 4 1, zf_go 5], 52),
  (52, [zf_ild 3, zf_retz], 54)]
theorem zT9_6 (h : Nat) : zTab h 9 6 5 (zt9_6 h) := zTab.mk (ret := (some .boolean)) (bl := xk9_6) (by decide +kernel) (by decide +kernel) rfl rfl
def zt9_7 (h : Nat) : ZB := [(0, [zf_ild 0, zf_ic 48, zf_ic2 .lt 16, zf_ild 0, zf_ic 57, zf_ic2 .gt 16, zf_ic 1, zf_go 17], 16),
  (16, [zf_ic 0], 17),
  (17, [zf_retz], 18)]
theorem zT9_7 (h : Nat) : zTab h 9 7 1 (zt9_7 h) := zTab.mk (ret := (some .boolean)) (bl := xk9_7) (by decide +kernel) (by decide +kernel) rfl rfl
def zt9_8 (h : Nat) : ZB := [(0, [zf_ald 0, zf_inv h 9 14 0, zf_ic 41, zf_ic2 .ne 22, zf_ald 0, zf_dup, zf_getI 9 4, zf_ic 1, zf_sub, zf_putI 9 4, zf_go 58], 22),
  (22, [zf_ald 0, zf_inv h 9 14 0, zf_ic 40, zf_ic2 .ne 58, zf_ald 0, zf_getI 9 4, zf_ic 100, zf_ic2 .lt 48, zf_ald 0, zf_ald 0, zf_getI 9 2, zf_inv h 9 2 1], 48),
  (48, [zf_ald 0, zf_dup, zf_getI 9 4, zf_ic 1, zf_add, zf_putI 9 4], 58),
  (58, [zf_ret], 59)]
theorem zT9_8 (h : Nat) : zTab h 9 8 1 (zt9_8 h) := zTab.mk (ret := none) (bl := xk9_8) (by decide +kernel) (by decide +kernel) rfl rfl
def zt9_9 (h : Nat) : ZB := [(0, [zf_ald 0, zf_ild 2, zf_inv h 9 24 1, zf_ist 4, zf_ald 0, zf_getI 9 2, zf_ild 4, zf_ic2 .le 22, zf_ald 0, zf_ild 4, zf_inv h 9 2 1], 22),
  (22, [zf_ic 0, zf_ist 5], 25),
  (25, [zf_ild 5, zf_ald 0, zf_getI 9 1, zf_ic2 .gt 137, zf_ald 0, zf_getI 9 3, zf_ic (-1), zf_ic2 .ne 137, zf_ald 0, zf_inv h 9 14 0, zf_ic 10, zf_ic2 .ne 93, zf_ald 0, zf_ald 0, zf_getI 9 2, zf_ic 1, zf_add, zf_ild 3, zf_inv h 9 6 2, zf_if .ne 93, zf_ald 0, zf_getR 9 7, zf_ild 1, zf_ald 0, zf_getR 9 0, zf_ild 2, zf_ald 0, zf_getI 9 2, zf_inv h 2 15 4, zf_ald 0, zf_dup, zf_getI 9 2, zf_ic 1, zf_add, zf_putI 9 2, zf_ret], 93),
  (93, [zf_ald 0, zf_getI 9 2, zf_ald 0, zf_getI 9 1, zf_ic2 .ge 113, zf_ald 0, zf_getI 9 2, zf_ild 4, zf_ic2 .lt 121], 113),
  (113, [zf_ald 0, zf_ald 0, zf_getI 9 2, zf_inv h 9 2 1], 121),
  (121, [zf_ald 0, zf_dup, zf_getI 9 2, zf_ic 1, zf_add, zf_putI 9 2, zf_inc 5 1, zf_go 25], 137),
  (137, [zf_ret], 138)]
theorem zT9_9 (h : Nat) : zTab h 9 9 6 (zt9_9 h) := zTab.mk (ret := none) (bl := xk9_9) (by decide +kernel) (by decide +kernel) rfl rfl
def zt9_10 (h : Nat) : ZB := [(0, [zf_ald 0, zf_ild 2, zf_inv h 9 24 1, zf_ist 3, zf_ald 0, zf_getI 9 4, zf_ic 1, zf_sub, zf_ist 4, zf_ald 0, zf_getI 9 2, zf_ild 3, zf_ic2 .le 27, zf_ald 0, zf_ild 3, zf_inv h 9 2 1], 27),
  (27, [zf_ic 0, zf_ist 5], 30),
  (30, [zf_ild 5, zf_ald 0, zf_getI 9 1, zf_ic2 .gt 128, zf_ald 0, zf_getI 9 3, zf_ic (-1), zf_ic2 .ne 128, zf_ald 0, zf_getI 9 4, zf_ild 4, zf_ic2 .le 128, zf_ald 0, zf_getI 9 2, zf_ald 0, zf_getI 9 1, zf_ic2 .ge 75, zf_ald 0, zf_getI 9 2, zf_ild 3, zf_ic2 .lt 86], 75),
  (75, [zf_ald 0, zf_ald 0, zf_getI 9 2, zf_inv h 9 2 1, zf_go 122], 86),
  (86, [zf_ald 0, zf_getR 9 0, zf_ald 0, zf_getI 9 2, zf_aldI 104, zf_ic 34, zf_ic2 .ne 108, zf_ald 0, zf_ild 3, zf_inv h 9 27 1, zf_go 122], 108),
  (108, [zf_ald 0, zf_inv h 9 8 0, zf_ald 0, zf_dup, zf_getI 9 2, zf_ic 1, zf_add, zf_putI 9 2], 122),
  (122, [zf_inc 5 1, zf_go 30], 128),
  (128, [zf_ald 0, zf_getI 9 3, zf_ic (-1), zf_ic2 .ne 153, zf_ald 0, zf_getR 9 7, zf_ild 1, zf_ald 0, zf_getR 9 0, zf_ild 2, zf_ald 0, zf_getI 9 2, zf_inv h 2 15 4], 153),
  (153, [zf_ret], 154)]
theorem zT9_10 (h : Nat) : zTab h 9 10 6 (zt9_10 h) := zTab.mk (ret := none) (bl := xk9_10) (by decide +kernel) (by decide +kernel) rfl rfl
def zt9_11 (h : Nat) : ZB := [(0, [zf_ic 0, zf_ist 3], 2),
  (2, [zf_ild 3, zf_ic 9, zf_ic2 .ge 95, zf_ild 3, zf_inst h 2 28 1, zf_ast 4, zf_ald 4, zf_slen, zf_ild 2, zf_ild 1, zf_sub, zf_ic2 .ne 29, zf_ic 1, zf_go 30], 29),
  (29, [zf_ic 0], 30),
  (30, [zf_ist 5, zf_ic 0, zf_ist 6], 35),
  (35, [zf_ild 6, zf_ald 4, zf_slen, zf_ic2 .ge 82, zf_ild 5, zf_if .eq 82, zf_ald 0, zf_getR 9 0, zf_ild 1, zf_ild 6, zf_add, zf_aldI 104, zf_ald 4, zf_ild 6, zf_schar, zf_ic2 .ne 73, zf_ic 1, zf_go 74], 73),
  (73, [zf_ic 0], 74),
  (74, [zf_ist 5, zf_inc 6 1, zf_go 35], 82),
  (82, [zf_ild 5, zf_if .eq 89, zf_ild 3, zf_reti], 89),
  (89, [zf_inc 3 1, zf_go 2], 95),
  (95, [zf_ic 9, zf_reti], 98)]
theorem zT9_11 (h : Nat) : zTab h 9 11 7 (zt9_11 h) := zTab.mk (ret := (some .int)) (bl := xk9_11) (by decide +kernel) (by decide +kernel) rfl rfl
def zt9_12 (h : Nat) : ZB := [(0, [zf_ild 0, zf_lk 56 [(65, 48), (78, 52), (85, 46), (86, 44)]], 44),
  (44, [zf_lc 1, zf_retl], 46),
  (46, [zf_lc 1, zf_retl], 48),
  (48, [zf_lc (-360), zf_retl], 52),
  (52, [zf_lc (-1000000000), zf_retl], 56),
  (56, [zf_lc 0, zf_retl], 58)]
theorem zT9_12 (h : Nat) : zTab h 9 12 1 (zt9_12 h) := zTab.mk (ret := (some .long)) (bl := xk9_12) (by decide +kernel) (by decide +kernel) rfl rfl
def zt9_13 (h : Nat) : ZB := [(0, [zf_ild 2, zf_ic (-1), zf_ic2 .ne 15, zf_ild 1, zf_if .ne 13, zf_ic 1, zf_go 14], 13),
  (13, [zf_ic 0], 14),
  (14, [zf_retz], 15),
  (15, [zf_rc 2, zf_ild 1, zf_aldI 100, zf_ald 0, zf_getR 9 7, zf_ild 2, zf_inv h 2 16 1, zf_bit zshr, zf_ic 1, zf_bit zand, zf_if .eq 38, zf_ic 1, zf_go 39], 38),
  (38, [zf_ic 0], 39),
  (39, [zf_retz], 40)]
theorem zT9_13 (h : Nat) : zTab h 9 13 3 (zt9_13 h) := zTab.mk (ret := (some .boolean)) (bl := xk9_13) (by decide +kernel) (by decide +kernel) rfl rfl
def zt9_14 (h : Nat) : ZB := [(0, [zf_ald 0, zf_getI 9 2, zf_ald 0, zf_getI 9 1, zf_ic2 .ge 23, zf_ald 0, zf_getR 9 0, zf_ald 0, zf_getI 9 2, zf_aldI 104, zf_go 24], 23),
  (23, [zf_ic (-1)], 24),
  (24, [zf_reti], 25)]
theorem zT9_14 (h : Nat) : zTab h 9 14 1 (zt9_14 h) := zTab.mk (ret := (some .int)) (bl := xk9_14) (by decide +kernel) (by decide +kernel) rfl rfl
def zt9_15 (h : Nat) : ZB := [(0, [zf_ald 0, zf_inv h 9 14 0, zf_ic 32, zf_ic2 .eq 34, zf_ald 0, zf_getI 9 6, zf_if .eq 25, zf_ald 0, zf_inv h 9 14 0, zf_ic 10, zf_ic2 .eq 34], 25),
  (25, [zf_ald 0, zf_ald 0, zf_getI 9 2, zf_inv h 9 2 1, zf_ret], 34),
  (34, [zf_ald 0, zf_dup, zf_getI 9 2, zf_ic 1, zf_add, zf_putI 9 2, zf_ald 0, zf_getI 9 6, zf_if .eq 55, zf_ald 0, zf_inv h 9 25 0], 55),
  (55, [zf_ret], 56)]
theorem zT9_15 (h : Nat) : zTab h 9 15 1 (zt9_15 h) := zTab.mk (ret := none) (bl := xk9_15) (by decide +kernel) (by decide +kernel) rfl rfl
def zt9_16 (h : Nat) : ZB := [(0, [zf_ild 1, zf_ic (-1), zf_ic2 .ne 9, zf_ic 0, zf_go 20], 9),
  (9, [zf_ald 0, zf_getR 9 7, zf_getR 2 5, zf_ild 1, zf_aldI 100, zf_ic 1, zf_add], 20),
  (20, [zf_ist 2, zf_ic 0, zf_ist 3], 23),
  (23, [zf_ild 3, zf_ild 2, zf_ic2 .ge 53, zf_ald 0, zf_inv h 9 14 0, zf_ic 46, zf_ic2 .ne 53, zf_ald 0, zf_dup, zf_getI 9 2, zf_ic 1, zf_add, zf_putI 9 2, zf_inc 3 1, zf_go 23], 53),
  (53, [zf_ild 1, zf_ic (-1), zf_ic2 .eq 72, zf_ild 3, zf_if .ne 72, zf_ald 0, zf_ald 0, zf_getI 9 2, zf_inv h 9 2 1, zf_ild 1, zf_reti], 72),
  (72, [zf_ald 0, zf_getI 9 2, zf_ist 4, zf_ald 0, zf_ald 0, zf_ild 1, zf_ild 3, zf_ic 1, zf_sub, zf_inv h 9 0 2, zf_inv h 9 20 1, zf_ist 5, zf_ild 5, zf_ic (-1), zf_ic2 .ne 100, zf_ild 1, zf_reti], 100),
  (100, [zf_ald 0, zf_getR 9 7, zf_ild 5, zf_inv h 2 16 1, zf_ic 9, zf_ic2 .ne 125, zf_ald 0, zf_ild 5, zf_ild 4, zf_ild 3, zf_inv h 9 9 3, zf_ild 1, zf_reti], 125),
  (125, [zf_ald 0, zf_ild 5, zf_inv h 9 23 1, zf_ald 0, zf_getI 9 3, zf_ic (-1), zf_ic2 .ne 156, zf_ald 0, zf_inv h 9 14 0, zf_ic 10, zf_ic2 .eq 156, zf_ald 0, zf_ald 0, zf_getI 9 2, zf_inv h 9 2 1], 156),
  (156, [zf_ald 0, zf_dup, zf_getI 9 2, zf_ic 1, zf_add, zf_putI 9 2, zf_ild 5, zf_reti], 169)]
theorem zT9_16 (h : Nat) : zTab h 9 16 6 (zt9_16 h) := zTab.mk (ret := (some .int)) (bl := xk9_16) (by decide +kernel) (by decide +kernel) rfl rfl
def zt9_17 (h : Nat) : ZB := [(0, [zf_ic (-1), zf_ist 1, zf_ic 0, zf_ist 2], 4),
  (4, [zf_ild 2, zf_ald 0, zf_getI 9 1, zf_ic2 .gt 47, zf_ald 0, zf_getI 9 3, zf_ic (-1), zf_ic2 .ne 47, zf_ild 2, zf_if .eq 35, zf_ald 0, zf_getI 9 2, zf_ald 0, zf_getI 9 1, zf_ic2 .ge 47], 35),
  (35, [zf_ald 0, zf_ild 1, zf_inv h 9 16 1, zf_ist 1, zf_inc 2 1, zf_go 4], 47),
  (47, [zf_ret], 48)]
theorem zT9_17 (h : Nat) : zTab h 9 17 3 (zt9_17 h) := zTab.mk (ret := none) (bl := xk9_17) (by decide +kernel) (by decide +kernel) rfl rfl
def zt9_18 (h : Nat) : ZB := [(0, [zf_ald 0, zf_getI 9 2, zf_ist 2, zf_ald 0, zf_getI 9 4, zf_ic 100, zf_ic2 .lt 24, zf_ald 0, zf_ald 0, zf_getI 9 2, zf_inv h 9 2 1, zf_ild 1, zf_reti], 24),
  (24, [zf_ald 0, zf_dup, zf_getI 9 4, zf_ic 1, zf_add, zf_putI 9 4, zf_ald 0, zf_dup, zf_getI 9 2, zf_ic 1, zf_add, zf_putI 9 2, zf_ald 0, zf_inv h 9 25 0, zf_ald 0, zf_getI 9 2, zf_ist 3, zf_ald 0, zf_ild 1, zf_inv h 9 20 1, zf_ist 4, zf_ild 4, zf_ic (-1), zf_ic2 .ne 68, zf_ild 1, zf_reti], 68),
  (68, [zf_ald 0, zf_getR 9 7, zf_ild 4, zf_inv h 2 16 1, zf_ic 9, zf_ic2 .ne 91, zf_ald 0, zf_ild 4, zf_ild 2, zf_inv h 9 10 2, zf_ild 1, zf_reti], 91),
  (91, [zf_ald 0, zf_ild 4, zf_inv h 9 23 1, zf_ild 4, zf_reti], 100)]
theorem zT9_18 (h : Nat) : zTab h 9 18 5 (zt9_18 h) := zTab.mk (ret := (some .int)) (bl := xk9_18) (by decide +kernel) (by decide +kernel) rfl rfl
def zt9_19 (h : Nat) : ZB := [(0, [zf_ald 0, zf_inv h 9 25 0, zf_ald 0, zf_inv h 9 14 0, zf_ic 40, zf_ic2 .eq 21, zf_ald 0, zf_ald 0, zf_getI 9 2, zf_inv h 9 2 1], 21),
  (21, [zf_ic (-1), zf_ist 1, zf_ic 0, zf_ist 2], 25),
  (25, [zf_ild 2, zf_ald 0, zf_getI 9 1, zf_ic2 .gt 65, zf_ald 0, zf_getI 9 3, zf_ic (-1), zf_ic2 .ne 65, zf_ald 0, zf_ald 0, zf_ild 1, zf_inv h 9 18 1, zf_inv h 9 1 1, zf_ist 1, zf_ild 1, zf_ic (-1), zf_ic2 .ne 59, zf_go 65], 59),
  (59, [zf_inc 2 1, zf_go 25], 65),
  (65, [zf_ald 0, zf_inv h 9 25 0, zf_ald 0, zf_getI 9 2, zf_ald 0, zf_getI 9 1, zf_ic2 .ge 88, zf_ald 0, zf_ald 0, zf_getI 9 2, zf_inv h 9 2 1], 88),
  (88, [zf_ret], 89)]
theorem zT9_19 (h : Nat) : zTab h 9 19 3 (zt9_19 h) := zTab.mk (ret := none) (bl := xk9_19) (by decide +kernel) (by decide +kernel) rfl rfl
def zt9_20 (h : Nat) : ZB := [(0, [zf_ald 0, zf_getI 9 2, zf_ist 2], 5),
  (5, [zf_ald 0, zf_getI 9 2, zf_ald 0, zf_getI 9 1, zf_ic2 .ge 57, zf_ald 0, zf_getR 9 0, zf_ald 0, zf_getI 9 2, zf_aldI 104, zf_ic 97, zf_ic2 .lt 57, zf_ald 0, zf_getR 9 0, zf_ald 0, zf_getI 9 2, zf_aldI 104, zf_ic 122, zf_ic2 .gt 57, zf_ald 0, zf_dup, zf_getI 9 2, zf_ic 1, zf_add, zf_putI 9 2, zf_go 5], 57),
  (57, [zf_ald 0, zf_getI 9 2, zf_ild 2, zf_ic2 .ne 75, zf_ald 0, zf_ald 0, zf_getI 9 2, zf_inv h 9 2 1, zf_ic (-1), zf_reti], 75),
  (75, [zf_ald 0, zf_ild 2, zf_ald 0, zf_getI 9 2, zf_inv h 9 11 2, zf_ist 3, zf_ald 0, zf_ild 3, zf_ild 1, zf_inv h 9 13 2, zf_if .eq 107, zf_ald 0, zf_getR 9 7, zf_getI 2 0, zf_ic 200, zf_ic2 .lt 114], 107),
  (107, [zf_ald 0, zf_ild 2, zf_inv h 9 2 1, zf_ic (-1), zf_reti], 114),
  (114, [zf_ald 0, zf_getR 9 7, zf_ild 3, zf_ild 1, zf_inv h 2 0 2, zf_reti], 124)]
theorem zT9_20 (h : Nat) : zTab h 9 20 4 (zt9_20 h) := zTab.mk (ret := (some .int)) (bl := xk9_20) (by decide +kernel) (by decide +kernel) rfl rfl
def zt9_21 (h : Nat) : ZB := [(0, [zf_ald 0, zf_getI 9 2, zf_ist 4, zf_ald 0, zf_inv h 9 14 0, zf_ic 45, zf_ic2 .ne 19, zf_ic 1, zf_go 20], 19),
  (19, [zf_ic 0], 20),
  (20, [zf_ist 5, zf_ild 5, zf_if .eq 37, zf_ald 0, zf_dup, zf_getI 9 2, zf_ic 1, zf_add, zf_putI 9 2], 37),
  (37, [zf_ald 0, zf_ic 4, zf_inv h 9 28 1, zf_lst 6, zf_ild 2, zf_ic 78, zf_ic2 .ne 61, zf_lld 6, zf_rc 1, zf_ic 6, zf_aldL, zf_lmul, zf_lst 6], 61),
  (61, [zf_ild 2, zf_ic 78, zf_ic2 .ne 130, zf_ald 0, zf_getI 9 3, zf_ic (-1), zf_ic2 .ne 130, zf_ald 0, zf_inv h 9 14 0, zf_ic 46, zf_ic2 .ne 130, zf_ald 0, zf_dup, zf_getI 9 2, zf_ic 1, zf_add, zf_putI 9 2, zf_ald 0, zf_getI 9 2, zf_ist 8, zf_ald 0, zf_ic 6, zf_inv h 9 28 1, zf_lst 9, zf_lld 6, zf_lld 9, zf_rc 1, zf_ic 6, zf_ald 0, zf_getI 9 2, zf_ild 8, zf_sub, zf_sub, zf_aldL, zf_lmul, zf_ladd, zf_lst 6], 130),
  (130, [zf_ild 5, zf_if .eq 141, zf_lld 6, zf_lneg, zf_go 143], 141),
  (141, [zf_lld 6], 143),
  (143, [zf_lst 6, zf_ald 0, zf_getI 9 3, zf_ic (-1), zf_ic2 .ne 182, zf_lld 6, zf_ild 2, zf_inst h 9 12 1, zf_lcmp, zf_if .lt 173, zf_lld 6, zf_ild 2, zf_inst h 9 4 1, zf_lcmp, zf_if .le 182], 173),
  (173, [zf_ald 0, zf_ild 4, zf_inv h 9 2 1, zf_go 209], 182),
  (182, [zf_ild 2, zf_ic 86, zf_ic2 .ne 198, zf_ald 0, zf_lld 6, zf_l2i, zf_putI 9 5, zf_go 209], 198),
  (198, [zf_ald 0, zf_getR 9 7, zf_ild 1, zf_ild 3, zf_lld 6, zf_inv h 2 23 3], 209),
  (209, [zf_ret], 210)]
theorem zT9_21 (h : Nat) : zTab h 9 21 11 (zt9_21 h) := zTab.mk (ret := none) (bl := xk9_21) (by decide +kernel) (by decide +kernel) rfl rfl
def zt9_22 (h : Nat) : ZB := [(0, [zf_ald 0, zf_inv h 9 14 0, zf_ic 34, zf_ic2 .eq 18, zf_ald 0, zf_ald 0, zf_getI 9 2, zf_inv h 9 2 1, zf_ret], 18),
  (18, [zf_ald 0, zf_dup, zf_getI 9 2, zf_ic 1, zf_add, zf_putI 9 2, zf_ald 0, zf_getR 9 7, zf_ild 1, zf_ild 2, zf_inv h 2 24 2, zf_ic 0, zf_ist 3], 39),
  (39, [zf_ild 3, zf_ic 40, zf_ic2 .gt 164, zf_ald 0, zf_getI 9 3, zf_ic (-1), zf_ic2 .ne 164, zf_ald 0, zf_inv h 9 14 0, zf_ic 34, zf_ic2 .ne 73, zf_ald 0, zf_dup, zf_getI 9 2, zf_ic 1, zf_add, zf_putI 9 2, zf_ret], 73),
  (73, [zf_ild 3, zf_ic 40, zf_ic2 .eq 88, zf_ald 0, zf_inv h 9 14 0, zf_ic 10, zf_ic2 .ne 96], 88),
  (88, [zf_ald 0, zf_ald 0, zf_getI 9 2, zf_inv h 9 2 1], 96),
  (96, [zf_ald 0, zf_inv h 9 26 0, zf_ald 0, zf_getI 9 3, zf_ic (-1), zf_ic2 .ne 150, zf_ald 0, zf_getI 9 2, zf_ald 0, zf_getI 9 1, zf_ic2 .ge 150, zf_ald 0, zf_getR 9 7, zf_ild 1, zf_ild 2, zf_ald 0, zf_getR 9 0, zf_ald 0, zf_getI 9 2, zf_aldI 104, zf_inv h 2 1 3, zf_ald 0, zf_dup, zf_getI 9 2, zf_ic 1, zf_add, zf_putI 9 2, zf_go 158], 150),
  (150, [zf_ald 0, zf_ald 0, zf_getI 9 2, zf_inv h 9 2 1], 158),
  (158, [zf_inc 3 1, zf_go 39], 164),
  (164, [zf_ret], 165)]
theorem zT9_22 (h : Nat) : zTab h 9 22 4 (zt9_22 h) := zTab.mk (ret := none) (bl := xk9_22) (by decide +kernel) (by decide +kernel) rfl rfl
def zt9_23 (h : Nat) : ZB := [(0, [zf_ald 0, zf_getR 9 7, zf_ild 1, zf_inv h 2 16 1, zf_ist 2, zf_ild 2, zf_inst h 2 12 1, zf_ast 3, zf_ald 3, zf_slen, zf_ist 4, zf_ild 2, zf_ic 4, zf_ic2 .ne 33, zf_ald 0, zf_getI 9 5, zf_ic 2, zf_ic2 .lt 47], 33),
  (33, [zf_ild 2, zf_ic 6, zf_ic2 .ne 50, zf_ald 0, zf_getI 9 5, zf_ic 3, zf_ic2 .ge 50], 47),
  (47, [zf_inc 4 (-1)], 50),
  (50, [zf_ic 0, zf_ist 5, zf_ic 0, zf_ist 6, zf_ic 0, zf_ist 7], 59),
  (59, [zf_ild 7, zf_ild 4, zf_ic2 .ge 133, zf_ald 0, zf_getI 9 3, zf_ic (-1), zf_ic2 .ne 133, zf_ald 0, zf_inv h 9 15 0, zf_ald 0, zf_getI 9 3, zf_ic (-1), zf_ic2 .eq 87, zf_ret], 87),
  (87, [zf_ald 3, zf_ild 7, zf_schar, zf_ic 84, zf_ic2 .ne 111, zf_ald 0, zf_ild 1, zf_ild 5, zf_inv h 9 22 2, zf_inc 5 1, zf_go 127], 111),
  (111, [zf_ald 0, zf_ild 1, zf_ald 3, zf_ild 7, zf_schar, zf_ild 6, zf_inv h 9 21 3, zf_inc 6 1], 127),
  (127, [zf_inc 7 1, zf_go 59], 133),
  (133, [zf_ret], 134)]
theorem zT9_23 (h : Nat) : zTab h 9 23 8 (zt9_23 h) := zTab.mk (ret := none) (bl := xk9_23) (by decide +kernel) (by decide +kernel) rfl rfl
def zt9_24 (h : Nat) : ZB := [(0, [zf_ild 1, zf_ic 2000, zf_add, zf_ald 0, zf_getR 9 7, zf_getI 2 2, zf_sub, zf_reti], 14)]
theorem zT9_24 (h : Nat) : zTab h 9 24 2 (zt9_24 h) := zTab.mk (ret := (some .int)) (bl := xk9_24) (by decide +kernel) (by decide +kernel) rfl rfl
def zt9_25 (h : Nat) : ZB := [(0, [zf_ald 0, zf_getI 9 2, zf_ald 0, zf_getI 9 1, zf_ic2 .ge 52, zf_ald 0, zf_getR 9 0, zf_ald 0, zf_getI 9 2, zf_aldI 104, zf_ic 32, zf_ic2 .eq 39, zf_ald 0, zf_getR 9 0, zf_ald 0, zf_getI 9 2, zf_aldI 104, zf_ic 10, zf_ic2 .ne 52], 39),
  (39, [zf_ald 0, zf_dup, zf_getI 9 2, zf_ic 1, zf_add, zf_putI 9 2, zf_go 0], 52),
  (52, [zf_ret], 53)]
theorem zT9_25 (h : Nat) : zTab h 9 25 1 (zt9_25 h) := zTab.mk (ret := none) (bl := xk9_25) (by decide +kernel) (by decide +kernel) rfl rfl
def zt9_26 (h : Nat) : ZB := [(0, [zf_ald 0, zf_getI 9 3, zf_ic (-1), zf_ic2 .ne 53, zf_ald 0, zf_inv h 9 14 0, zf_ic 92, zf_ic2 .ne 53, zf_ald 0, zf_dup, zf_getI 9 2, zf_ic 1, zf_add, zf_putI 9 2, zf_ald 0, zf_inv h 9 14 0, zf_ic 34, zf_ic2 .eq 53, zf_ald 0, zf_inv h 9 14 0, zf_ic 92, zf_ic2 .eq 53, zf_ald 0, zf_ald 0, zf_getI 9 2, zf_inv h 9 2 1], 53),
  (53, [zf_ret], 54)]
theorem zT9_26 (h : Nat) : zTab h 9 26 1 (zt9_26 h) := zTab.mk (ret := none) (bl := xk9_26) (by decide +kernel) (by decide +kernel) rfl rfl
def zt9_27 (h : Nat) : ZB := [(0, [zf_ald 0, zf_dup, zf_getI 9 2, zf_ic 1, zf_add, zf_putI 9 2, zf_ic 0, zf_ist 2, zf_ic 0, zf_ist 3], 14),
  (14, [zf_ild 3, zf_ald 0, zf_getI 9 1, zf_ic2 .gt 104, zf_ald 0, zf_getI 9 3, zf_ic (-1), zf_ic2 .ne 104, zf_ild 2, zf_if .ne 104, zf_ald 0, zf_inv h 9 14 0, zf_ic 34, zf_ic2 .ne 47, zf_ic 1, zf_go 48], 47),
  (47, [zf_ic 0], 48),
  (48, [zf_ist 2, zf_ald 0, zf_getI 9 2, zf_ild 1, zf_ic2 .ge 61, zf_ald 0, zf_inv h 9 26 0], 61),
  (61, [zf_ald 0, zf_getI 9 2, zf_ald 0, zf_getI 9 1, zf_ic2 .ge 80, zf_ald 0, zf_getI 9 2, zf_ild 1, zf_ic2 .lt 88], 80),
  (80, [zf_ald 0, zf_ald 0, zf_getI 9 2, zf_inv h 9 2 1], 88),
  (88, [zf_ald 0, zf_dup, zf_getI 9 2, zf_ic 1, zf_add, zf_putI 9 2, zf_inc 3 1, zf_go 14], 104),
  (104, [zf_ret], 105)]
theorem zT9_27 (h : Nat) : zTab h 9 27 4 (zt9_27 h) := zTab.mk (ret := none) (bl := xk9_27) (by decide +kernel) (by decide +kernel) rfl rfl
def zt9_28 (h : Nat) : ZB := [(0, [zf_lc 0, zf_lst 2, zf_ic 0, zf_ist 4], 5),
  (5, [zf_ild 4, zf_ild 1, zf_ic2 .ge 53, zf_ald 0, zf_inv h 9 14 0, zf_inst h 9 7 1, zf_if .eq 53, zf_lld 2, zf_lc 10, zf_lmul, zf_ald 0, zf_inv h 9 14 0, zf_i2l, zf_ladd, zf_lc 48, zf_lsub, zf_lst 2, zf_ald 0, zf_dup, zf_getI 9 2, zf_ic 1, zf_add, zf_putI 9 2, zf_inc 4 1, zf_go 5], 53),
  (53, [zf_ild 4, zf_if .eq 68, zf_ald 0, zf_inv h 9 14 0, zf_inst h 9 7 1, zf_if .eq 76], 68),
  (68, [zf_ald 0, zf_ald 0, zf_getI 9 2, zf_inv h 9 2 1], 76),
  (76, [zf_lld 2, zf_retl], 78)]
theorem zT9_28 (h : Nat) : zTab h 9 28 5 (zt9_28 h) := zTab.mk (ret := (some .long)) (bl := xk9_28) (by decide +kernel) (by decide +kernel) rfl rfl
def zt10_0 (h : Nat) : ZB := [(0, [zf_ald 0, zf_getI 10 5, zf_ist 3, zf_ild 3, zf_ic 24, zf_ic2 .ge 17, zf_ild 2, zf_ic 24, zf_ic2 .le 18], 17),
  (17, [zf_ret], 18),
  (18, [zf_ic 0, zf_ist 4], 21),
  (21, [zf_ild 4, zf_ild 2, zf_ic2 .ge 54, zf_ald 0, zf_getR 10 2, zf_ild 3, zf_ic 24, zf_mul, zf_ild 4, zf_add, zf_ald 0, zf_getR 10 0, zf_ild 1, zf_ild 4, zf_add, zf_aldI 100, zf_astI, zf_inc 4 1, zf_go 21], 54),
  (54, [zf_ald 0, zf_getR 10 3, zf_ild 3, zf_ild 2, zf_astI, zf_ald 0, zf_getR 10 4, zf_ild 3, zf_ic 1, zf_astB, zf_ald 0, zf_dup, zf_getI 10 5, zf_ic 1, zf_add, zf_putI 10 5, zf_ald 0, zf_ild 3, zf_inv h 10 2 1, zf_ret], 84)]
theorem zT10_0 (h : Nat) : zTab h 10 0 5 (zt10_0 h) := zTab.mk (ret := none) (bl := xk10_0) (by decide +kernel) (by decide +kernel) rfl rfl
def zt10_1 (h : Nat) : ZB := [(0, [zf_ald 0, zf_getI 10 1, zf_ic 400, zf_ic2 .ge 30, zf_ald 0, zf_getR 10 0, zf_ald 0, zf_getI 10 1, zf_ild 1, zf_astI, zf_ald 0, zf_dup, zf_getI 10 1, zf_ic 1, zf_add, zf_putI 10 1], 30),
  (30, [zf_ret], 31)]
theorem zT10_1 (h : Nat) : zTab h 10 1 2 (zt10_1 h) := zTab.mk (ret := none) (bl := xk10_1) (by decide +kernel) (by decide +kernel) rfl rfl
def zt10_2 (h : Nat) : ZB := [(0, [zf_ald 0, zf_getR 10 7, zf_ald 0, zf_getI 10 9, zf_aldI 100, zf_ist 2, zf_ild 2, zf_ic 8, zf_ic2 .ge 51, zf_ild 1, zf_ald 0, zf_getI 10 5, zf_ic2 .ge 51, zf_ald 0, zf_getR 10 6, zf_ald 0, zf_getI 10 9, zf_ic 8, zf_mul, zf_ild 2, zf_add, zf_ild 1, zf_astI, zf_ald 0, zf_getR 10 7, zf_ald 0, zf_getI 10 9, zf_ild 2, zf_ic 1, zf_add, zf_astI], 51),
  (51, [zf_ret], 52)]
theorem zT10_2 (h : Nat) : zTab h 10 2 3 (zt10_2 h) := zTab.mk (ret := none) (bl := xk10_2) (by decide +kernel) (by decide +kernel) rfl rfl
def zt10_3 (h : Nat) : ZB := [(0, [zf_ald 0, zf_getI 10 10, zf_if .ne 19, zf_ald 0, zf_ild 1, zf_inv h 10 10 1, zf_if .eq 19, zf_ild 2, zf_if .ge 21], 19),
  (19, [zf_ic (-1), zf_reti], 21),
  (21, [zf_ild 2, zf_ist 3, zf_ic 0, zf_ist 4], 26),
  (26, [zf_ild 4, zf_ald 0, zf_getR 10 7, zf_ild 1, zf_aldI 100, zf_ic2 .ge 91, zf_ald 0, zf_getR 10 6, zf_ild 1, zf_ic 8, zf_mul, zf_ild 4, zf_add, zf_aldI 100, zf_ist 5, zf_ild 3, zf_ald 0, zf_getR 10 3, zf_ild 5, zf_aldI 100, zf_ic2 .ge 75, zf_ald 0, zf_getR 10 2, zf_ild 5, zf_ic 24, zf_mul, zf_ild 3, zf_add, zf_aldI 100, zf_reti], 75),
  (75, [zf_ild 3, zf_ald 0, zf_getR 10 3, zf_ild 5, zf_aldI 100, zf_sub, zf_ist 3, zf_inc 4 1, zf_go 26], 91),
  (91, [zf_ic (-1), zf_reti], 93)]
theorem zT10_3 (h : Nat) : zTab h 10 3 6 (zt10_3 h) := zTab.mk (ret := (some .int)) (bl := xk10_3) (by decide +kernel) (by decide +kernel) rfl rfl
def zt10_4 (h : Nat) : ZB := [(0, [zf_ald 0, zf_getI 10 9, zf_ic 12, zf_ic2 .ge 39, zf_ald 0, zf_dup, zf_getI 10 9, zf_ic 1, zf_add, zf_putI 10 9, zf_ald 0, zf_getR 10 7, zf_ald 0, zf_getI 10 9, zf_ic 0, zf_astI, zf_ald 0, zf_getR 10 8, zf_ald 0, zf_getI 10 9, zf_ic 0, zf_astB], 39),
  (39, [zf_ret], 40)]
theorem zT10_4 (h : Nat) : zTab h 10 4 1 (zt10_4 h) := zTab.mk (ret := none) (bl := xk10_4) (by decide +kernel) (by decide +kernel) rfl rfl
def zt10_5 (h : Nat) : ZB := [(0, [zf_ald 0, zf_getI 10 10, zf_if .eq 10, zf_ic (-3), zf_reti], 10),
  (10, [zf_ald 0, zf_ild 1, zf_inv h 10 10 1, zf_if .ne 21, zf_ic (-2), zf_reti], 21),
  (21, [zf_ald 0, zf_getR 10 8, zf_ild 1, zf_aldB, zf_if .eq 33, zf_ic (-4), zf_reti], 33),
  (33, [zf_ald 0, zf_getI 10 1, zf_ic 2, zf_add, zf_ic 400, zf_ic2 .le 47, zf_ic (-1), zf_reti], 47),
  (47, [zf_ald 0, zf_ic 4, zf_ild 1, zf_inv h 10 15 2, zf_ic 0, zf_reti], 55)]
theorem zT10_5 (h : Nat) : zTab h 10 5 2 (zt10_5 h) := zTab.mk (ret := (some .int)) (bl := xk10_5) (by decide +kernel) (by decide +kernel) rfl rfl
def zt10_6 (h : Nat) : ZB := [(0, [zf_ic 0, zf_ist 1, zf_ic 0, zf_ist 2], 4),
  (4, [zf_ild 2, zf_ald 0, zf_getI 10 5, zf_ic2 .ge 45, zf_ald 0, zf_getR 10 4, zf_ild 2, zf_aldB, zf_if .eq 39, zf_ald 0, zf_ild 2, zf_inv h 10 11 1, zf_if .ne 39, zf_ald 0, zf_getR 10 4, zf_ild 2, zf_ic 0, zf_astB, zf_inc 1 1], 39),
  (39, [zf_inc 2 1, zf_go 4], 45),
  (45, [zf_ild 1, zf_reti], 47)]
theorem zT10_6 (h : Nat) : zTab h 10 6 3 (zt10_6 h) := zTab.mk (ret := (some .int)) (bl := xk10_6) (by decide +kernel) (by decide +kernel) rfl rfl
def zt10_7 (h : Nat) : ZB := [(0, [zf_ild 1, zf_ald 0, zf_getI 10 9, zf_ic2 .ge 22, zf_ald 0, zf_getR 10 8, zf_ild 1, zf_ic 1, zf_astB, zf_ald 0, zf_getR 10 7, zf_ild 1, zf_ic 0, zf_astI], 22),
  (22, [zf_ret], 23)]
theorem zT10_7 (h : Nat) : zTab h 10 7 2 (zt10_7 h) := zTab.mk (ret := none) (bl := xk10_7) (by decide +kernel) (by decide +kernel) rfl rfl
def zt10_8 (h : Nat) : ZB := [(0, [zf_ic 0, zf_ist 3, zf_ic 0, zf_ist 4], 5),
  (5, [zf_ild 4, zf_ald 1, zf_getR 0 10, zf_getI 7 2, zf_ic2 .ge 124, zf_ald 1, zf_ild 4, zf_inv h 0 19 1, zf_ild 2, zf_ic2 .ne 118, zf_ild 3, zf_ic 4, zf_add, zf_ic 24, zf_ic2 .gt 118, zf_ald 1, zf_ild 4, zf_inv h 0 18 1, zf_ist 5, zf_ald 0, zf_getR 10 12, zf_ild 3, zf_ald 1, zf_getR 0 10, zf_ild 4, zf_ic 0, zf_inv h 7 1 2, zf_astI, zf_ald 0, zf_getR 10 12, zf_ild 3, zf_ic 1, zf_add, zf_ald 1, zf_getR 0 10, zf_ild 4, zf_ic 1, zf_inv h 7 1 2, zf_astI, zf_ald 0, zf_getR 10 12, zf_ild 3, zf_ic 2, zf_add, zf_ald 1, zf_ild 5, zf_inv h 0 14 1, zf_astI, zf_ald 0, zf_getR 10 12, zf_ild 3, zf_ic 3, zf_add, zf_ic 16, zf_ald 1, zf_ild 5, zf_inv h 0 21 1, zf_mul, zf_ald 1, zf_ild 5, zf_inv h 0 6 1, zf_add, zf_astI, zf_inc 3 4], 118),
  (118, [zf_inc 4 1, zf_go 5], 124),
  (124, [zf_ild 3, zf_reti], 126)]
theorem zT10_8 (h : Nat) : zTab h 10 8 6 (zt10_8 h) := zTab.mk (ret := (some .int)) (bl := xk10_8) (by decide +kernel) (by decide +kernel) rfl rfl
def zt10_10 (h : Nat) : ZB := [(0, [zf_ild 1, zf_if .lt 16, zf_ild 1, zf_ald 0, zf_getI 10 9, zf_ic2 .ge 16, zf_ic 1, zf_go 17], 16),
  (16, [zf_ic 0], 17),
  (17, [zf_retz], 18)]
theorem zT10_10 (h : Nat) : zTab h 10 10 2 (zt10_10 h) := zTab.mk (ret := (some .boolean)) (bl := xk10_10) (by decide +kernel) (by decide +kernel) rfl rfl
def zt10_11 (h : Nat) : ZB := [(0, [zf_ic 0, zf_ist 2, zf_ic 0, zf_ist 3], 4),
  (4, [zf_ild 3, zf_ald 0, zf_getI 10 9, zf_ic2 .gt 64, zf_ic 0, zf_ist 4], 15),
  (15, [zf_ild 4, zf_ald 0, zf_getR 10 7, zf_ild 3, zf_aldI 100, zf_ic2 .ge 58, zf_ild 2, zf_if .ne 46, zf_ald 0, zf_getR 10 6, zf_ild 3, zf_ic 8, zf_mul, zf_ild 4, zf_add, zf_aldI 100, zf_ild 1, zf_ic2 .ne 50], 46),
  (46, [zf_ic 1, zf_go 51], 50),
  (50, [zf_ic 0], 51),
  (51, [zf_ist 2, zf_inc 4 1, zf_go 15], 58),
  (58, [zf_inc 3 1, zf_go 4], 64),
  (64, [zf_ild 2, zf_retz], 66)]
theorem zT10_11 (h : Nat) : zTab h 10 11 5 (zt10_11 h) := zTab.mk (ret := (some .boolean)) (bl := xk10_11) (by decide +kernel) (by decide +kernel) rfl rfl
def zt10_12 (h : Nat) : ZB := [(0, [zf_ald 1, zf_getI 0 0, zf_ic (-1), zf_ic2 .eq 15, zf_ald 0, zf_getI 10 10, zf_if .eq 18], 15),
  (15, [zf_ic (-3), zf_reti], 18),
  (18, [zf_ald 0, zf_getR 10 7, zf_ald 0, zf_getI 10 9, zf_aldI 100, zf_ist 2, zf_ic 0, zf_ist 3, zf_ic 1, zf_ist 4, zf_ic 0, zf_ist 5], 36),
  (36, [zf_ild 5, zf_ald 1, zf_getR 0 11, zf_getI 7 2, zf_ic2 .ge 119, zf_ald 0, zf_ald 1, zf_ild 5, zf_inv h 10 8 2, zf_ist 6, zf_ild 6, zf_if .le 113, zf_ald 0, zf_ild 6, zf_inv h 10 20 1, zf_ic (-1), zf_ic2 .eq 76, zf_ic 1, zf_go 77], 76),
  (76, [zf_ic 0], 77),
  (77, [zf_ist 7, zf_inc 2 1, zf_ild 3, zf_ild 7, zf_if .eq 92, zf_ic 0, zf_go 93], 92),
  (92, [zf_ic 1], 93),
  (93, [zf_add, zf_ist 3, zf_ild 4, zf_ild 7, zf_if .eq 106, zf_ic 2, zf_go 110], 106),
  (106, [zf_ic 2, zf_ild 6, zf_add], 110),
  (110, [zf_add, zf_ist 4], 113),
  (113, [zf_inc 5 1, zf_go 36], 119),
  (119, [zf_ild 2, zf_ic 8, zf_ic2 .gt 149, zf_ald 0, zf_getI 10 5, zf_ild 3, zf_add, zf_ic 24, zf_ic2 .gt 149, zf_ald 0, zf_getI 10 9, zf_ic 12, zf_ic2 .ge 149, zf_ic 1, zf_go 150], 149),
  (149, [zf_ic 0], 150),
  (150, [zf_ist 5, zf_ild 5, zf_if .eq 170, zf_ald 0, zf_getI 10 1, zf_ild 4, zf_add, zf_ic 400, zf_ic2 .le 172], 170),
  (170, [zf_ic (-1), zf_reti], 172),
  (172, [zf_ic 0, zf_ist 6], 175),
  (175, [zf_ild 6, zf_ald 1, zf_getR 0 11, zf_getI 7 2, zf_ic2 .ge 213, zf_ald 0, zf_ald 1, zf_ild 6, zf_inv h 10 8 2, zf_ist 7, zf_ild 7, zf_if .le 207, zf_ald 0, zf_ild 7, zf_inv h 10 16 1], 207),
  (207, [zf_inc 6 1, zf_go 175], 213),
  (213, [zf_ald 0, zf_ic 3, zf_ic (-1), zf_inv h 10 15 2, zf_ald 0, zf_getI 10 9, zf_ic 1, zf_sub, zf_reti], 226)]
theorem zT10_12 (h : Nat) : zTab h 10 12 8 (zt10_12 h) := zTab.mk (ret := (some .int)) (bl := xk10_12) (by decide +kernel) (by decide +kernel) rfl rfl
def zt10_13 (h : Nat) : ZB := [(0, [zf_ald 0, zf_getI 10 10, zf_if .eq 10, zf_ic (-3), zf_reti], 10),
  (10, [zf_ild 1, zf_if .lt 22, zf_ild 1, zf_ald 0, zf_getI 10 1, zf_ic2 .le 25], 22),
  (22, [zf_ic (-2), zf_reti], 25),
  (25, [zf_ald 0, zf_getI 10 11, zf_ic 16, zf_ic2 .lt 36, zf_ic (-1), zf_reti], 36),
  (36, [zf_ald 0, zf_dup, zf_getI 10 11, zf_ic 1, zf_add, zf_putI 10 11, zf_ald 0, zf_ic 1, zf_putZ 10 10, zf_ald 0, zf_ild 1, zf_putI 10 1, zf_ic 0, zf_reti], 58)]
theorem zT10_13 (h : Nat) : zTab h 10 13 2 (zt10_13 h) := zTab.mk (ret := (some .int)) (bl := xk10_13) (by decide +kernel) (by decide +kernel) rfl rfl
def zt10_14 (h : Nat) : ZB := [(0, [zf_ald 2, zf_getI 0 0, zf_ic (-1), zf_ic2 .eq 15, zf_ald 0, zf_getI 10 10, zf_if .eq 18], 15),
  (15, [zf_ic (-3), zf_reti], 18),
  (18, [zf_ald 0, zf_ild 1, zf_inv h 10 10 1, zf_if .ne 29, zf_ic (-2), zf_reti], 29),
  (29, [zf_ic 0, zf_ist 3, zf_ic 0, zf_ist 4], 34),
  (34, [zf_ild 4, zf_ic 192, zf_ic2 .ge 126, zf_ald 0, zf_ild 1, zf_ild 4, zf_ic 3, zf_add, zf_inv h 10 3 2, zf_ic (-1), zf_ic2 .eq 126, zf_ald 0, zf_ild 1, zf_ild 4, zf_ic 3, zf_add, zf_inv h 10 3 2, zf_ist 5, zf_ald 2, zf_ald 0, zf_ild 1, zf_ild 4, zf_inv h 10 3 2, zf_ald 0, zf_ild 1, zf_ild 4, zf_ic 1, zf_add, zf_inv h 10 3 2, zf_ald 0, zf_ild 1, zf_ild 4, zf_ic 2, zf_add, zf_inv h 10 3 2, zf_ild 5, zf_ic 16, zf_rem, zf_ild 5, zf_ic 16, zf_div, zf_inv h 0 0 5, zf_ist 6, zf_ild 3, zf_ild 6, zf_if .lt 117, zf_ic 1, zf_go 118], 117),
  (117, [zf_ic 0], 118),
  (118, [zf_add, zf_ist 3, zf_inc 4 4, zf_go 34], 126),
  (126, [zf_ild 3, zf_reti], 128)]
theorem zT10_14 (h : Nat) : zTab h 10 14 7 (zt10_14 h) := zTab.mk (ret := (some .int)) (bl := xk10_14) (by decide +kernel) (by decide +kernel) rfl rfl
def zt10_15 (h : Nat) : ZB := [(0, [zf_ald 0, zf_getI 10 1, zf_ist 3, zf_ald 0, zf_ild 1, zf_inv h 10 1 1, zf_ild 2, zf_ic (-1), zf_ic2 .eq 20, zf_ald 0, zf_ild 2, zf_inv h 10 1 1], 20),
  (20, [zf_ald 0, zf_ild 3, zf_inv h 10 19 1, zf_pop, zf_ret], 27)]
theorem zT10_15 (h : Nat) : zTab h 10 15 4 (zt10_15 h) := zTab.mk (ret := none) (bl := xk10_15) (by decide +kernel) (by decide +kernel) rfl rfl
def zt10_16 (h : Nat) : ZB := [(0, [zf_ald 0, zf_ild 1, zf_inv h 10 20 1, zf_ist 2, zf_ild 2, zf_ic (-1), zf_ic2 .eq 18, zf_ald 0, zf_ic 2, zf_ild 2, zf_inv h 10 15 2, zf_ret], 18),
  (18, [zf_ald 0, zf_getI 10 1, zf_ist 3, zf_ald 0, zf_ic 1, zf_inv h 10 1 1, zf_ald 0, zf_ild 1, zf_inv h 10 1 1, zf_ic 0, zf_ist 4], 36),
  (36, [zf_ild 4, zf_ild 1, zf_ic2 .ge 59, zf_ald 0, zf_ald 0, zf_getR 10 12, zf_ild 4, zf_aldI 100, zf_inv h 10 1 1, zf_inc 4 1, zf_go 36], 59),
  (59, [zf_ald 0, zf_ild 3, zf_inv h 10 19 1, zf_pop, zf_ret], 66)]
theorem zT10_16 (h : Nat) : zTab h 10 16 5 (zt10_16 h) := zTab.mk (ret := none) (bl := xk10_16) (by decide +kernel) (by decide +kernel) rfl rfl
def zt10_17 (h : Nat) : ZB := [(0, [zf_ild 1, zf_if .lt 12, zf_ild 1, zf_ald 0, zf_getI 10 1, zf_ic2 .lt 14], 12),
  (12, [zf_ic (-1), zf_reti], 14),
  (14, [zf_ald 0, zf_getR 10 0, zf_ild 1, zf_aldI 100, zf_sw 89 1 5 [56, 81, 83, 85, 87]], 56),
  (56, [zf_ild 1, zf_ic 1, zf_add, zf_ald 0, zf_getI 10 1, zf_ic2 .ge 79, zf_ic 2, zf_ald 0, zf_getR 10 0, zf_ild 1, zf_ic 1, zf_add, zf_aldI 100, zf_add, zf_go 80], 79),
  (79, [zf_ic (-1)], 80),
  (80, [zf_reti], 81),
  (81, [zf_ic 2, zf_reti], 83),
  (83, [zf_ic 1, zf_reti], 85),
  (85, [zf_ic 2, zf_reti], 87),
  (87, [zf_ic 1, zf_reti], 89),
  (89, [zf_ic (-1), zf_reti], 91)]
theorem zT10_17 (h : Nat) : zTab h 10 17 2 (zt10_17 h) := zTab.mk (ret := (some .int)) (bl := xk10_17) (by decide +kernel) (by decide +kernel) rfl rfl
def zt10_18 (h : Nat) : ZB := [(0, [zf_ald 0, zf_getI 10 10, zf_if .ne 10, zf_ic (-3), zf_reti], 10),
  (10, [zf_ald 0, zf_ic 0, zf_putZ 10 10, zf_ald 0, zf_ic 0, zf_putI 10 5, zf_ald 0, zf_ic 0, zf_putI 10 9, zf_ald 0, zf_getR 10 7, zf_ic 0, zf_ic 0, zf_astI, zf_ald 0, zf_getR 10 8, zf_ic 0, zf_ic 0, zf_astB, zf_ic 0, zf_ist 1, zf_ic 0, zf_ist 2, zf_ic 0, zf_ist 3], 45),
  (45, [zf_ild 3, zf_ic 400, zf_ic2 .gt 71, zf_ild 2, zf_ic (-1), zf_ic2 .eq 71, zf_ild 2, zf_ist 1, zf_ald 0, zf_ild 1, zf_inv h 10 19 1, zf_ist 2, zf_inc 3 1, zf_go 45], 71),
  (71, [zf_ald 0, zf_ild 1, zf_putI 10 1, zf_ald 0, zf_getI 10 9, zf_reti], 81)]
theorem zT10_18 (h : Nat) : zTab h 10 18 4 (zt10_18 h) := zTab.mk (ret := (some .int)) (bl := xk10_18) (by decide +kernel) (by decide +kernel) rfl rfl
def zt10_19 (h : Nat) : ZB := [(0, [zf_ald 0, zf_ild 1, zf_inv h 10 17 1, zf_ist 2, zf_ild 2, zf_ic (-1), zf_ic2 .eq 21, zf_ild 1, zf_ild 2, zf_add, zf_ald 0, zf_getI 10 1, zf_ic2 .le 23], 21),
  (21, [zf_ic (-1), zf_reti], 23),
  (23, [zf_ald 0, zf_getR 10 0, zf_ild 1, zf_aldI 100, zf_sw 115 1 4 [60, 78, 93, 100]], 60),
  (60, [zf_ald 0, zf_ild 1, zf_ic 2, zf_add, zf_ald 0, zf_getR 10 0, zf_ild 1, zf_ic 1, zf_add, zf_aldI 100, zf_inv h 10 0 2, zf_go 120], 78),
  (78, [zf_ald 0, zf_ald 0, zf_getR 10 0, zf_ild 1, zf_ic 1, zf_add, zf_aldI 100, zf_inv h 10 2 1, zf_go 120], 93),
  (93, [zf_ald 0, zf_inv h 10 4 0, zf_go 120], 100),
  (100, [zf_ald 0, zf_ald 0, zf_getR 10 0, zf_ild 1, zf_ic 1, zf_add, zf_aldI 100, zf_inv h 10 7 1, zf_go 120], 115),
  (115, [zf_ald 0, zf_inv h 10 6 0, zf_pop], 120),
  (120, [zf_ild 1, zf_ild 2, zf_add, zf_reti], 124)]
theorem zT10_19 (h : Nat) : zTab h 10 19 3 (zt10_19 h) := zTab.mk (ret := (some .int)) (bl := xk10_19) (by decide +kernel) (by decide +kernel) rfl rfl
def zt10_20 (h : Nat) : ZB := [(0, [zf_ic 0, zf_ist 2], 2),
  (2, [zf_ild 2, zf_ald 0, zf_getI 10 5, zf_ic2 .ge 94, zf_ald 0, zf_getR 10 4, zf_ild 2, zf_aldB, zf_if .eq 33, zf_ald 0, zf_getR 10 3, zf_ild 2, zf_aldI 100, zf_ild 1, zf_ic2 .ne 33, zf_ic 1, zf_go 34], 33),
  (33, [zf_ic 0], 34),
  (34, [zf_ist 3, zf_ic 0, zf_ist 4], 38),
  (38, [zf_ild 4, zf_ild 1, zf_ic2 .ge 82, zf_ild 3, zf_if .eq 82, zf_ald 0, zf_getR 10 2, zf_ild 2, zf_ic 24, zf_mul, zf_ild 4, zf_add, zf_aldI 100, zf_ald 0, zf_getR 10 12, zf_ild 4, zf_aldI 100, zf_ic2 .ne 74, zf_ic 1, zf_go 75], 74),
  (74, [zf_ic 0], 75),
  (75, [zf_ist 3, zf_inc 4 1, zf_go 38], 82),
  (82, [zf_ild 3, zf_if .eq 88, zf_ild 2, zf_reti], 88),
  (88, [zf_inc 2 1, zf_go 2], 94),
  (94, [zf_ic (-1), zf_reti], 96)]
theorem zT10_20 (h : Nat) : zTab h 10 20 5 (zt10_20 h) := zTab.mk (ret := (some .int)) (bl := xk10_20) (by decide +kernel) (by decide +kernel) rfl rfl
def zt10_21 (h : Nat) : ZB := [(0, [zf_ald 0, zf_getI 10 10, zf_if .eq 10, zf_ic (-3), zf_reti], 10),
  (10, [zf_ald 0, zf_getI 10 1, zf_ic 1, zf_add, zf_ic 400, zf_ic2 .le 24, zf_ic (-1), zf_reti], 24),
  (24, [zf_ald 0, zf_ic 5, zf_inv h 10 1 1, zf_ald 0, zf_inv h 10 6 0, zf_reti], 34)]
theorem zT10_21 (h : Nat) : zTab h 10 21 1 (zt10_21 h) := zTab.mk (ret := (some .int)) (bl := xk10_21) (by decide +kernel) (by decide +kernel) rfl rfl
def zt11_0 (h : Nat) : ZB := [(0, [zf_ald 0, zf_getI 11 14, zf_if .ne 11, zf_ic (-1), zf_go 21], 11),
  (11, [zf_ald 0, zf_getR 11 12, zf_ild 1, zf_ild 2, zf_ild 3, zf_inv h 1 6 3], 21),
  (21, [zf_reti], 22)]
theorem zT11_0 (h : Nat) : zTab h 11 0 4 (zt11_0 h) := zTab.mk (ret := (some .int)) (bl := xk11_0) (by decide +kernel) (by decide +kernel) rfl rfl
def zt11_1 (h : Nat) : ZB := [(0, [zf_ald 0, zf_ild 1, zf_if .ge 10, zf_ild 1, zf_neg, zf_go 11], 10),
  (10, [zf_ic 0], 11),
  (11, [zf_putI 11 3, zf_ild 1, zf_if .ge 22, zf_ic (-1), zf_go 23], 22),
  (22, [zf_ild 1], 23),
  (23, [zf_reti], 24)]
theorem zT11_1 (h : Nat) : zTab h 11 1 2 (zt11_1 h) := zTab.mk (ret := (some .int)) (bl := xk11_1) (by decide +kernel) (by decide +kernel) rfl rfl
def zt11_2 (h : Nat) : ZB := [(0, [zf_ald 0, zf_ald 0, zf_getR 11 19, zf_ild 1, zf_ild 2, zf_ild 3, zf_inv h 5 23 3, zf_inv h 11 1 1, zf_reti], 15)]
theorem zT11_2 (h : Nat) : zTab h 11 2 4 (zt11_2 h) := zTab.mk (ret := (some .int)) (bl := xk11_2) (by decide +kernel) (by decide +kernel) rfl rfl
def zt11_3 (h : Nat) : ZB := [(0, [zf_ald 0, zf_ald 0, zf_getR 11 9, zf_ild 1, zf_ild 2, zf_ild 3, zf_inv h 0 2 3, zf_inv h 11 22 1, zf_retz], 15)]
theorem zT11_3 (h : Nat) : zTab h 11 3 4 (zt11_3 h) := zTab.mk (ret := (some .boolean)) (bl := xk11_3) (by decide +kernel) (by decide +kernel) rfl rfl
def zt11_4 (h : Nat) : ZB := [(0, [zf_ald 0, zf_getR 11 9, zf_ild 1, zf_ild 2, zf_inv h 0 4 2, zf_reti], 10)]
theorem zT11_4 (h : Nat) : zTab h 11 4 3 (zt11_4 h) := zTab.mk (ret := (some .int)) (bl := xk11_4) (by decide +kernel) (by decide +kernel) rfl rfl
def zt11_5 (h : Nat) : ZB := [(0, [zf_ald 0, zf_getR 11 8, zf_getI 3 15, zf_if .ne 17, zf_ald 0, zf_ic (-3), zf_inv h 11 1 1, zf_reti], 17),
  (17, [zf_ald 0, zf_getR 11 9, zf_getI 0 0, zf_ic 1, zf_add, zf_ic 6, zf_ic2 .lt 37, zf_ald 0, zf_ic (-1), zf_inv h 11 1 1, zf_reti], 37),
  (37, [zf_ald 0, zf_getR 11 9, zf_ild 1, zf_ic 16, zf_inst h 11 57 2, zf_ild 2, zf_ic 16, zf_inst h 11 57 2, zf_ild 3, zf_ic 4, zf_inst h 11 57 2, zf_lld 4, zf_inv h 0 3 4, zf_ald 0, zf_getR 11 9, zf_ald 0, zf_getR 11 8, zf_inv h 0 25 1, zf_ald 0, zf_ald 0, zf_getR 11 9, zf_getI 0 0, zf_inv h 11 1 1, zf_reti], 86)]
theorem zT11_5 (h : Nat) : zTab h 11 5 6 (zt11_5 h) := zTab.mk (ret := (some .int)) (bl := xk11_5) (by decide +kernel) (by decide +kernel) rfl rfl
def zt11_6 (h : Nat) : ZB := [(0, [zf_ald 0, zf_getR 11 19, zf_ild 1, zf_ild 2, zf_ild 3, zf_ild 4, zf_inv h 5 4 4, zf_reti], 13)]
theorem zT11_6 (h : Nat) : zTab h 11 6 5 (zt11_6 h) := zTab.mk (ret := (some .int)) (bl := xk11_6) (by decide +kernel) (by decide +kernel) rfl rfl
def zt11_7 (h : Nat) : ZB := [(0, [zf_ald 0, zf_getI 11 14, zf_if .ne 11, zf_ic (-1), zf_go 19], 11),
  (11, [zf_ald 0, zf_getR 11 12, zf_ild 1, zf_inv h 1 8 1], 19),
  (19, [zf_reti], 20)]
theorem zT11_7 (h : Nat) : zTab h 11 7 2 (zt11_7 h) := zTab.mk (ret := (some .int)) (bl := xk11_7) (by decide +kernel) (by decide +kernel) rfl rfl
def zt11_8 (h : Nat) : ZB := [(0, [zf_ald 0, zf_getR 11 9, zf_getI 0 0, zf_ic (-1), zf_ic2 .ne 18, zf_ald 0, zf_ic (-3), zf_inv h 11 22 1, zf_retz], 18),
  (18, [zf_ild 2, zf_inst h 11 25 1, zf_if .eq 44, zf_ild 3, zf_inst h 11 25 1, zf_if .eq 44, zf_ild 4, zf_inst h 11 25 1, zf_if .eq 44, zf_ic 1, zf_go 45], 44),
  (44, [zf_ic 0], 45),
  (45, [zf_ist 5, zf_ild 1, zf_if .lt 67, zf_ild 1, zf_ald 0, zf_getR 11 9, zf_getI 0 3, zf_ic2 .ge 67, zf_ild 5, zf_if .ne 74], 67),
  (67, [zf_ald 0, zf_ic (-2), zf_inv h 11 22 1, zf_retz], 74),
  (74, [zf_ald 0, zf_getR 11 9, zf_ild 1, zf_ild 2, zf_ild 3, zf_ild 4, zf_inv h 0 22 4, zf_ald 0, zf_ic 0, zf_inv h 11 22 1, zf_retz], 92)]
theorem zT11_8 (h : Nat) : zTab h 11 8 6 (zt11_8 h) := zTab.mk (ret := (some .boolean)) (bl := xk11_8) (by decide +kernel) (by decide +kernel) rfl rfl
def zt11_9 (h : Nat) : ZB := [(0, [zf_ald 0, zf_getR 11 9, zf_ild 1, zf_inv h 0 12 1, zf_if .eq 27, zf_ald 0, zf_getR 11 9, zf_getR 0 11, zf_ild 1, zf_ic 3, zf_inv h 7 1 2, zf_i2l, zf_go 30], 27),
  (27, [zf_lc (-1)], 30),
  (30, [zf_retl], 31)]
theorem zT11_9 (h : Nat) : zTab h 11 9 2 (zt11_9 h) := zTab.mk (ret := (some .long)) (bl := xk11_9) (by decide +kernel) (by decide +kernel) rfl rfl
def zt11_10 (h : Nat) : ZB := [(0, [zf_ald 0, zf_ald 0, zf_getR 11 18, zf_ild 1, zf_inv h 10 13 1, zf_inv h 11 22 1, zf_retz], 13)]
theorem zT11_10 (h : Nat) : zTab h 11 10 2 (zt11_10 h) := zTab.mk (ret := (some .boolean)) (bl := xk11_10) (by decide +kernel) (by decide +kernel) rfl rfl
def zt11_11 (h : Nat) : ZB := [(0, [zf_ald 0, zf_getR 11 9, zf_getI 0 0, zf_ic (-1), zf_ic2 .ne 18, zf_ald 0, zf_ic (-3), zf_inv h 11 1 1, zf_reti], 18),
  (18, [zf_ald 0, zf_getI 11 14, zf_ic 10, zf_ic2 .lt 33, zf_ald 0, zf_ic (-1), zf_inv h 11 1 1, zf_reti], 33),
  (33, [zf_ald 0, zf_getR 11 13, zf_ald 0, zf_getR 11 9, zf_ald 0, zf_getR 11 11, zf_inv h 1 37 2, zf_ald 0, zf_getR 11 13, zf_getI 1 2, zf_if .eq 64, zf_ald 0, zf_ic (-1), zf_inv h 11 1 1, zf_reti], 64),
  (64, [zf_ald 0, zf_dup, zf_getI 11 14, zf_ic 1, zf_add, zf_putI 11 14, zf_ald 0, zf_getR 11 12, zf_ast 1, zf_ald 0, zf_ald 0, zf_getR 11 13, zf_putR 11 12, zf_ald 0, zf_ald 1, zf_putR 11 13, zf_ald 0, zf_ald 0, zf_getR 11 12, zf_getR 1 1, zf_getI 7 2, zf_inv h 11 1 1, zf_reti], 107)]
theorem zT11_11 (h : Nat) : zTab h 11 11 2 (zt11_11 h) := zTab.mk (ret := (some .int)) (bl := xk11_11) (by decide +kernel) (by decide +kernel) rfl rfl
def zt11_12 (h : Nat) : ZB := [(0, [zf_ald 0, zf_getR 11 17, zf_ild 1, zf_inv h 4 3 1, zf_reti], 9)]
theorem zT11_12 (h : Nat) : zTab h 11 12 2 (zt11_12 h) := zTab.mk (ret := (some .int)) (bl := xk11_12) (by decide +kernel) (by decide +kernel) rfl rfl
def zt11_13 (h : Nat) : ZB := [(0, [zf_ald 0, zf_getI 11 14, zf_if .ne 11, zf_ic (-1), zf_go 20], 11),
  (11, [zf_ald 0, zf_getR 11 12, zf_ild 1, zf_ild 2, zf_inv h 1 11 2], 20),
  (20, [zf_reti], 21)]
theorem zT11_13 (h : Nat) : zTab h 11 13 3 (zt11_13 h) := zTab.mk (ret := (some .int)) (bl := xk11_13) (by decide +kernel) (by decide +kernel) rfl rfl
def zt11_14 (h : Nat) : ZB := [(0, [zf_ald 0, zf_ald 0, zf_getR 11 18, zf_ild 1, zf_inv h 10 5 1, zf_inv h 11 22 1, zf_retz], 13)]
theorem zT11_14 (h : Nat) : zTab h 11 14 2 (zt11_14 h) := zTab.mk (ret := (some .boolean)) (bl := xk11_14) (by decide +kernel) (by decide +kernel) rfl rfl
def zt11_15 (h : Nat) : ZB := [(0, [zf_ild 1, zf_if .lt 12, zf_ild 1, zf_ald 0, zf_getI 11 1, zf_ic2 .le 19], 12),
  (12, [zf_ald 0, zf_ic (-2), zf_inv h 11 22 1, zf_retz], 19),
  (19, [zf_ald 0, zf_ild 1, zf_putI 11 1, zf_ald 0, zf_ic 0, zf_inv h 11 22 1, zf_retz], 30)]
theorem zT11_15 (h : Nat) : zTab h 11 15 2 (zt11_15 h) := zTab.mk (ret := (some .boolean)) (bl := xk11_15) (by decide +kernel) (by decide +kernel) rfl rfl
def zt11_16 (h : Nat) : ZB := [(0, [zf_ald 0, zf_getR 11 17, zf_ild 1, zf_inv h 4 9 1, zf_reti], 9)]
theorem zT11_16 (h : Nat) : zTab h 11 16 2 (zt11_16 h) := zTab.mk (ret := (some .int)) (bl := xk11_16) (by decide +kernel) (by decide +kernel) rfl rfl
def zt11_17 (h : Nat) : ZB := [(0, [zf_ald 0, zf_getI 11 14, zf_if .le 21, zf_ald 0, zf_getR 11 12, zf_inv h 1 30 0, zf_if .eq 21, zf_ic 1, zf_go 22], 21),
  (21, [zf_ic 0], 22),
  (22, [zf_retz], 23)]
theorem zT11_17 (h : Nat) : zTab h 11 17 1 (zt11_17 h) := zTab.mk (ret := (some .boolean)) (bl := xk11_17) (by decide +kernel) (by decide +kernel) rfl rfl
def zt11_18 (h : Nat) : ZB := [(0, [zf_ald 0, zf_getR 11 9, zf_getI 0 0, zf_ic (-1), zf_ic2 .ne 18, zf_ald 0, zf_ic (-3), zf_inv h 11 22 1, zf_retz], 18),
  (18, [zf_ald 0, zf_getR 11 17, zf_ald 0, zf_getR 11 9, zf_ald 0, zf_getR 11 12, zf_inv h 4 28 2, zf_ald 0, zf_ic 0, zf_inv h 11 22 1, zf_retz], 39)]
theorem zT11_18 (h : Nat) : zTab h 11 18 1 (zt11_18 h) := zTab.mk (ret := (some .boolean)) (bl := xk11_18) (by decide +kernel) (by decide +kernel) rfl rfl
def zt11_19 (h : Nat) : ZB := [(0, [zf_ald 0, zf_ic 2, zf_putI 11 3, zf_ic (-2), zf_ild 1, zf_sub, zf_reti], 10)]
theorem zT11_19 (h : Nat) : zTab h 11 19 2 (zt11_19 h) := zTab.mk (ret := (some .int)) (bl := xk11_19) (by decide +kernel) (by decide +kernel) rfl rfl
def zt11_20 (h : Nat) : ZB := [(0, [zf_ald 0, zf_getI 11 1, zf_ic 20, zf_add, zf_ic 4000, zf_ic2 .le 19, zf_ald 0, zf_ic (-1), zf_inv h 11 22 1, zf_retz], 19),
  (19, [zf_ald 0, zf_ild 1, zf_inv h 11 21 1, zf_ald 0, zf_ild 2, zf_inv h 11 21 1, zf_ald 0, zf_ild 3, zf_inv h 11 21 1, zf_ald 0, zf_ild 4, zf_inv h 11 21 1, zf_ald 0, zf_ild 5, zf_inv h 11 21 1, zf_ald 0, zf_ic 0, zf_inv h 11 22 1, zf_retz], 52)]
theorem zT11_20 (h : Nat) : zTab h 11 20 6 (zt11_20 h) := zTab.mk (ret := (some .boolean)) (bl := xk11_20) (by decide +kernel) (by decide +kernel) rfl rfl
def zt11_21 (h : Nat) : ZB := [(0, [zf_ic 24, zf_ist 2], 3),
  (3, [zf_ild 2, zf_if .lt 46, zf_ald 0, zf_getI 11 1, zf_ic 4000, zf_ic2 .ge 46, zf_ald 0, zf_getR 11 0, zf_ald 0, zf_getI 11 1, zf_ild 1, zf_ild 2, zf_bit zushr, zf_cv zi2b, zf_astB, zf_ald 0, zf_dup, zf_getI 11 1, zf_ic 1, zf_add, zf_putI 11 1, zf_inc 2 (-8), zf_go 3], 46),
  (46, [zf_ret], 47)]
theorem zT11_21 (h : Nat) : zTab h 11 21 3 (zt11_21 h) := zTab.mk (ret := none) (bl := xk11_21) (by decide +kernel) (by decide +kernel) rfl rfl
def zt11_22 (h : Nat) : ZB := [(0, [zf_ald 0, zf_ild 1, zf_inv h 11 1 1, zf_ic (-1), zf_ic2 .eq 13, zf_ic 1, zf_go 14], 13),
  (13, [zf_ic 0], 14),
  (14, [zf_retz], 15)]
theorem zT11_22 (h : Nat) : zTab h 11 22 2 (zt11_22 h) := zTab.mk (ret := (some .boolean)) (bl := xk11_22) (by decide +kernel) (by decide +kernel) rfl rfl
def zt11_24 (h : Nat) : ZB := [(0, [zf_ild 0, zf_ic (-1), zf_ic2 .lt 14, zf_ild 0, zf_ic 3, zf_ic2 .gt 14, zf_ic 1, zf_go 15], 14),
  (14, [zf_ic 0], 15),
  (15, [zf_retz], 16)]
theorem zT11_24 (h : Nat) : zTab h 11 24 1 (zt11_24 h) := zTab.mk (ret := (some .boolean)) (bl := xk11_24) (by decide +kernel) (by decide +kernel) rfl rfl
def zt11_25 (h : Nat) : ZB := [(0, [zf_ild 0, zf_if .lt 14, zf_ild 0, zf_ic 50, zf_ic2 .gt 14, zf_ic 1, zf_go 15], 14),
  (14, [zf_ic 0], 15),
  (15, [zf_retz], 16)]
theorem zT11_25 (h : Nat) : zTab h 11 25 1 (zt11_25 h) := zTab.mk (ret := (some .boolean)) (bl := xk11_25) (by decide +kernel) (by decide +kernel) rfl rfl
def zt11_26 (h : Nat) : ZB := [(0, [zf_ald 0, zf_getR 11 4, zf_ild 1, zf_inv h 2 16 1, zf_reti], 9)]
theorem zT11_26 (h : Nat) : zTab h 11 26 2 (zt11_26 h) := zTab.mk (ret := (some .int)) (bl := xk11_26) (by decide +kernel) (by decide +kernel) rfl rfl
def zt11_27 (h : Nat) : ZB := [(0, [zf_ald 0, zf_ald 0, zf_getR 11 18, zf_ild 1, zf_ald 0, zf_getR 11 9, zf_inv h 10 14 2, zf_inv h 11 1 1, zf_reti], 17)]
theorem zT11_27 (h : Nat) : zTab h 11 27 2 (zt11_27 h) := zTab.mk (ret := (some .int)) (bl := xk11_27) (by decide +kernel) (by decide +kernel) rfl rfl
def zt11_28 (h : Nat) : ZB := [(0, [zf_ald 0, zf_getR 11 8, zf_ild 1, zf_inv h 3 30 1, zf_reti], 9)]
theorem zT11_28 (h : Nat) : zTab h 11 28 2 (zt11_28 h) := zTab.mk (ret := (some .int)) (bl := xk11_28) (by decide +kernel) (by decide +kernel) rfl rfl
def zt11_29 (h : Nat) : ZB := [(0, [zf_ald 0, zf_getR 11 8, zf_ild 1, zf_ild 2, zf_inv h 3 31 2, zf_reti], 10)]
theorem zT11_29 (h : Nat) : zTab h 11 29 3 (zt11_29 h) := zTab.mk (ret := (some .int)) (bl := xk11_29) (by decide +kernel) (by decide +kernel) rfl rfl
def zt11_30 (h : Nat) : ZB := [(0, [zf_ald 0, zf_getR 11 8, zf_getI 3 14, zf_reti], 8)]
theorem zT11_30 (h : Nat) : zTab h 11 30 1 (zt11_30 h) := zTab.mk (ret := (some .int)) (bl := xk11_30) (by decide +kernel) (by decide +kernel) rfl rfl
def zt11_31 (h : Nat) : ZB := [(0, [zf_ald 0, zf_getR 11 4, zf_ild 1, zf_ild 2, zf_inv h 2 18 2, zf_retl], 10)]
theorem zT11_31 (h : Nat) : zTab h 11 31 3 (zt11_31 h) := zTab.mk (ret := (some .long)) (bl := xk11_31) (by decide +kernel) (by decide +kernel) rfl rfl
def zt11_32 (h : Nat) : ZB := [(0, [zf_ild 1, zf_if .lt 15, zf_ild 1, zf_ald 0, zf_getR 11 17, zf_getI 4 8, zf_ic2 .lt 21], 15),
  (15, [zf_lc 1099511627776, zf_go 32], 21),
  (21, [zf_ald 0, zf_getR 11 17, zf_getR 4 7, zf_ild 1, zf_aldL, zf_l2i, zf_i2l], 32),
  (32, [zf_retl], 33)]
theorem zT11_32 (h : Nat) : zTab h 11 32 2 (zt11_32 h) := zTab.mk (ret := (some .long)) (bl := xk11_32) (by decide +kernel) (by decide +kernel) rfl rfl
def zt11_33 (h : Nat) : ZB := [(0, [zf_ald 0, zf_ic 400, zf_inv h 11 51 1, zf_ist 1, zf_ald 0, zf_getR 11 16, zf_ald 0, zf_getR 11 2, zf_ild 1, zf_inv h 8 3 2, zf_ist 2, zf_ild 2, zf_ic (-1), zf_ic2 .eq 32, zf_ald 0, zf_ild 2, zf_inv h 11 19 1, zf_reti], 32),
  (32, [zf_ald 0, zf_getR 11 15, zf_ast 3, zf_ald 0, zf_ald 0, zf_getR 11 16, zf_putR 11 15, zf_ald 0, zf_ald 3, zf_putR 11 16, zf_ald 0, zf_getR 11 17, zf_ald 0, zf_getR 11 15, zf_inv h 4 27 1, zf_ald 0, zf_ald 0, zf_getR 11 15, zf_getI 8 4, zf_inv h 11 1 1, zf_reti], 73)]
theorem zT11_33 (h : Nat) : zTab h 11 33 4 (zt11_33 h) := zTab.mk (ret := (some .int)) (bl := xk11_33) (by decide +kernel) (by decide +kernel) rfl rfl
def zt11_34 (h : Nat) : ZB := [(0, [zf_ald 0, zf_getR 11 19, zf_ild 1, zf_ild 2, zf_ild 3, zf_inv h 5 19 3, zf_reti], 11)]
theorem zT11_34 (h : Nat) : zTab h 11 34 4 (zt11_34 h) := zTab.mk (ret := (some .int)) (bl := xk11_34) (by decide +kernel) (by decide +kernel) rfl rfl
def zt11_35 (h : Nat) : ZB := [(0, [zf_ald 0, zf_ald 0, zf_getR 11 9, zf_ild 1, zf_ild 2, zf_ild 3, zf_ild 4, zf_ild 5, zf_inv h 0 0 5, zf_inv h 11 1 1, zf_reti], 19)]
theorem zT11_35 (h : Nat) : zTab h 11 35 6 (zt11_35 h) := zTab.mk (ret := (some .int)) (bl := xk11_35) (by decide +kernel) (by decide +kernel) rfl rfl
def zt11_36 (h : Nat) : ZB := [(0, [zf_ald 0, zf_getI 11 14, zf_if .ne 14, zf_ald 0, zf_ic (-3), zf_inv h 11 1 1, zf_reti], 14),
  (14, [zf_ald 0, zf_getR 11 12, zf_inv h 1 30 0, zf_if .eq 38, zf_ald 0, zf_getR 11 17, zf_inv h 4 2 0, zf_if .eq 38, zf_ic 1, zf_go 39], 38),
  (38, [zf_ic 0], 39),
  (39, [zf_ist 1, zf_ald 0, zf_ald 0, zf_getR 11 19, zf_ald 0, zf_getR 11 12, zf_ild 1, zf_inv h 5 0 2, zf_inv h 11 1 1, zf_reti], 57)]
theorem zT11_36 (h : Nat) : zTab h 11 36 2 (zt11_36 h) := zTab.mk (ret := (some .int)) (bl := xk11_36) (by decide +kernel) (by decide +kernel) rfl rfl
def zt11_37 (h : Nat) : ZB := [(0, [zf_ald 0, zf_getR 11 8, zf_ild 1, zf_inv h 3 34 1, zf_reti], 9)]
theorem zT11_37 (h : Nat) : zTab h 11 37 2 (zt11_37 h) := zTab.mk (ret := (some .int)) (bl := xk11_37) (by decide +kernel) (by decide +kernel) rfl rfl
def zt11_38 (h : Nat) : ZB := [(0, [zf_ald 0, zf_ald 0, zf_getR 11 18, zf_inv h 10 18 0, zf_inv h 11 1 1, zf_reti], 12)]
theorem zT11_38 (h : Nat) : zTab h 11 38 1 (zt11_38 h) := zTab.mk (ret := (some .int)) (bl := xk11_38) (by decide +kernel) (by decide +kernel) rfl rfl
def zt11_39 (h : Nat) : ZB := [(0, [zf_ald 0, zf_getI 11 14, zf_if .ne 11, zf_ic (-1), zf_go 19], 11),
  (11, [zf_ald 0, zf_getR 11 12, zf_ild 1, zf_inv h 1 47 1], 19),
  (19, [zf_reti], 20)]
theorem zT11_39 (h : Nat) : zTab h 11 39 2 (zt11_39 h) := zTab.mk (ret := (some .int)) (bl := xk11_39) (by decide +kernel) (by decide +kernel) rfl rfl
def zt11_40 (h : Nat) : ZB := [(0, [zf_ald 0, zf_getR 11 19, zf_ild 1, zf_ild 2, zf_inv h 5 22 2, zf_reti], 10)]
theorem zT11_40 (h : Nat) : zTab h 11 40 3 (zt11_40 h) := zTab.mk (ret := (some .int)) (bl := xk11_40) (by decide +kernel) (by decide +kernel) rfl rfl
def zt11_41 (h : Nat) : ZB := [(0, [zf_ald 0, zf_getR 11 9, zf_getI 0 0, zf_ic (-1), zf_ic2 .ne 18, zf_ald 0, zf_ic (-3), zf_inv h 11 1 1, zf_reti], 18),
  (18, [zf_ild 1, zf_ic 1, zf_ic2 .lt 29, zf_ild 1, zf_ic 20, zf_ic2 .le 36], 29),
  (29, [zf_ald 0, zf_ic (-2), zf_inv h 11 1 1, zf_reti], 36),
  (36, [zf_ic 0, zf_ist 2], 38),
  (38, [zf_ild 2, zf_ild 1, zf_ic2 .ge 66, zf_ald 0, zf_getR 11 9, zf_inv h 0 17 0, zf_if .le 66, zf_ald 0, zf_getR 11 10, zf_inv h 6 4 0, zf_inc 2 1, zf_go 38], 66),
  (66, [zf_ald 0, zf_ald 0, zf_getR 11 9, zf_inv h 0 17 0, zf_inv h 11 1 1, zf_reti], 78)]
theorem zT11_41 (h : Nat) : zTab h 11 41 3 (zt11_41 h) := zTab.mk (ret := (some .int)) (bl := xk11_41) (by decide +kernel) (by decide +kernel) rfl rfl
def zt11_42 (h : Nat) : ZB := [(0, [zf_ild 1, zf_ic 4, zf_ic2 .ne 9, zf_ic 0, zf_go 11], 9),
  (9, [zf_ic 100000], 11),
  (11, [zf_ist 5, zf_ild 1, zf_if .lt 40, zf_ild 1, zf_ic 4, zf_ic2 .gt 40, zf_ild 2, zf_inst h 11 24 1, zf_if .eq 40, zf_ild 3, zf_inst h 11 24 1, zf_if .eq 40, zf_ic 1, zf_go 41], 40),
  (40, [zf_ic 0], 41),
  (41, [zf_ist 6, zf_ild 6, zf_if .eq 60, zf_ild 4, zf_if .lt 60, zf_ild 4, zf_ild 5, zf_ic2 .le 67], 60),
  (60, [zf_ald 0, zf_ic (-2), zf_inv h 11 1 1, zf_reti], 67),
  (67, [zf_ald 0, zf_getR 11 11, zf_inv h 7 2 0, zf_if .ne 83, zf_ald 0, zf_ic (-1), zf_inv h 11 1 1, zf_reti], 83),
  (83, [zf_ald 0, zf_ald 0, zf_getR 11 11, zf_ild 1, zf_ild 2, zf_ild 3, zf_ild 4, zf_ic 0, zf_inv h 7 0 5, zf_inv h 11 1 1, zf_reti], 101)]
theorem zT11_42 (h : Nat) : zTab h 11 42 7 (zt11_42 h) := zTab.mk (ret := (some .int)) (bl := xk11_42) (by decide +kernel) (by decide +kernel) rfl rfl
def zt11_43 (h : Nat) : ZB := [(0, [zf_ild 1, zf_ic 1, zf_ic2 .lt 12, zf_ild 1, zf_ic 300, zf_ic2 .le 19], 12),
  (12, [zf_ald 0, zf_ic (-2), zf_inv h 11 1 1, zf_reti], 19),
  (19, [zf_ald 0, zf_ald 0, zf_getR 11 17, zf_ild 1, zf_inv h 4 13 1, zf_inv h 11 1 1, zf_reti], 32)]
theorem zT11_43 (h : Nat) : zTab h 11 43 2 (zt11_43 h) := zTab.mk (ret := (some .int)) (bl := xk11_43) (by decide +kernel) (by decide +kernel) rfl rfl
def zt11_44 (h : Nat) : ZB := [(0, [zf_ald 0, zf_ald 0, zf_getR 11 18, zf_ald 0, zf_getR 11 9, zf_inv h 10 12 1, zf_inv h 11 1 1, zf_reti], 16)]
theorem zT11_44 (h : Nat) : zTab h 11 44 1 (zt11_44 h) := zTab.mk (ret := (some .int)) (bl := xk11_44) (by decide +kernel) (by decide +kernel) rfl rfl
def zt11_45 (h : Nat) : ZB := [(0, [zf_ald 0, zf_getR 11 18, zf_ild 1, zf_ild 2, zf_inv h 10 3 2, zf_reti], 10)]
theorem zT11_45 (h : Nat) : zTab h 11 45 3 (zt11_45 h) := zTab.mk (ret := (some .int)) (bl := xk11_45) (by decide +kernel) (by decide +kernel) rfl rfl
def zt11_46 (h : Nat) : ZB := [(0, [zf_ald 0, zf_ald 0, zf_getR 11 19, zf_ild 1, zf_inv h 5 18 1, zf_inv h 11 1 1, zf_reti], 13)]
theorem zT11_46 (h : Nat) : zTab h 11 46 2 (zt11_46 h) := zTab.mk (ret := (some .int)) (bl := xk11_46) (by decide +kernel) (by decide +kernel) rfl rfl
def zt11_47 (h : Nat) : ZB := [(0, [zf_ild 1, zf_if .eq 16, zf_ild 1, zf_ic 1, zf_ic2 .eq 16, zf_ald 0, zf_ic (-2), zf_inv h 11 1 1, zf_reti], 16),
  (16, [zf_ald 0, zf_getI 11 7, zf_ic 24, zf_ic2 .ge 36, zf_ald 0, zf_getR 11 8, zf_getI 3 15, zf_ic 4, zf_ic2 .lt 42], 36),
  (36, [zf_ald 0, zf_ic (-1), zf_inv h 11 1 1, zf_reti], 42),
  (42, [zf_ald 0, zf_dup, zf_getI 11 7, zf_ic 1, zf_add, zf_putI 11 7, zf_ald 0, zf_ic 4000, zf_inv h 11 51 1, zf_ist 2, zf_ald 0, zf_getR 11 6, zf_ald 0, zf_getR 11 2, zf_ild 2, zf_ild 1, zf_ald 0, zf_getR 11 5, zf_inv h 9 3 4, zf_ist 3, zf_ild 3, zf_ic (-1), zf_ic2 .eq 89, zf_ald 0, zf_ild 3, zf_inv h 11 19 1, zf_reti], 89),
  (89, [zf_ald 0, zf_getR 11 4, zf_ast 4, zf_ald 0, zf_ald 0, zf_getR 11 5, zf_putR 11 4, zf_ald 0, zf_ald 4, zf_putR 11 5, zf_ald 0, zf_getR 11 4, zf_inv h 2 31 0, zf_ald 0, zf_getR 11 8, zf_ald 0, zf_getR 11 4, zf_inv h 3 6 1, zf_ald 0, zf_ald 0, zf_getR 11 4, zf_getI 2 0, zf_inv h 11 1 1, zf_reti], 139)]
theorem zT11_47 (h : Nat) : zTab h 11 47 5 (zt11_47 h) := zTab.mk (ret := (some .int)) (bl := xk11_47) (by decide +kernel) (by decide +kernel) rfl rfl
def zt11_48 (h : Nat) : ZB := [(0, [zf_ald 0, zf_getI 11 14, zf_if .ne 11, zf_ic (-1), zf_go 18], 11),
  (11, [zf_ald 0, zf_getR 11 12, zf_getI 1 9], 18),
  (18, [zf_reti], 19)]
theorem zT11_48 (h : Nat) : zTab h 11 48 1 (zt11_48 h) := zTab.mk (ret := (some .int)) (bl := xk11_48) (by decide +kernel) (by decide +kernel) rfl rfl
def zt11_49 (h : Nat) : ZB := [(0, [zf_ild 1, zf_ic 2, zf_div, zf_ist 2], 4),
  (4, [zf_ild 2, zf_if .le 78, zf_ild 2, zf_ist 3], 10),
  (10, [zf_ild 3, zf_ild 1, zf_ic2 .ge 71, zf_ald 0, zf_ild 3, zf_aldI 100, zf_ist 4, zf_ild 3, zf_ist 5], 23),
  (23, [zf_ild 5, zf_ild 2, zf_ic2 .lt 59, zf_ald 0, zf_ild 5, zf_ild 2, zf_sub, zf_aldI 100, zf_ild 4, zf_ic2 .le 59, zf_ald 0, zf_ild 5, zf_ald 0, zf_ild 5, zf_ild 2, zf_sub, zf_aldI 100, zf_astI, zf_ild 5, zf_ild 2, zf_sub, zf_ist 5, zf_go 23], 59),
  (59, [zf_ald 0, zf_ild 5, zf_ild 4, zf_astI, zf_inc 3 1, zf_go 10], 71),
  (71, [zf_ild 2, zf_ic 2, zf_div, zf_ist 2, zf_go 4], 78),
  (78, [zf_ret], 79)]
theorem zT11_49 (h : Nat) : zTab h 11 49 6 (zt11_49 h) := zTab.mk (ret := none) (bl := xk11_49) (by decide +kernel) (by decide +kernel) rfl rfl
def zt11_50 (h : Nat) : ZB := [(0, [zf_ald 0, zf_ald 0, zf_getR 11 18, zf_inv h 10 21 0, zf_inv h 11 1 1, zf_reti], 12)]
theorem zT11_50 (h : Nat) : zTab h 11 50 1 (zt11_50 h) := zTab.mk (ret := (some .int)) (bl := xk11_50) (by decide +kernel) (by decide +kernel) rfl rfl
def zt11_51 (h : Nat) : ZB := [(0, [zf_ic 0, zf_ist 2, zf_ic 0, zf_ist 3], 4),
  (4, [zf_ild 3, zf_ald 0, zf_getI 11 1, zf_ic2 .ge 64, zf_ild 2, zf_ild 1, zf_ic2 .ge 64, zf_ald 0, zf_getR 11 0, zf_ild 3, zf_aldB, zf_ist 4, zf_ild 4, zf_ic 10, zf_ic2 .eq 46, zf_ild 4, zf_ic 32, zf_ic2 .lt 58, zf_ild 4, zf_ic 126, zf_ic2 .gt 58], 46),
  (46, [zf_ald 0, zf_getR 11 2, zf_ild 2, zf_ild 4, zf_cv zi2c, zf_astC, zf_inc 2 1], 58),
  (58, [zf_inc 3 1, zf_go 4], 64),
  (64, [zf_ald 0, zf_ic 0, zf_putI 11 1, zf_ild 2, zf_reti], 71)]
theorem zT11_51 (h : Nat) : zTab h 11 51 5 (zt11_51 h) := zTab.mk (ret := (some .int)) (bl := xk11_51) (by decide +kernel) (by decide +kernel) rfl rfl
def zt11_52 (h : Nat) : ZB := [(0, [zf_ald 0, zf_getI 11 3, zf_reti], 5)]
theorem zT11_52 (h : Nat) : zTab h 11 52 1 (zt11_52 h) := zTab.mk (ret := (some .int)) (bl := xk11_52) (by decide +kernel) (by decide +kernel) rfl rfl
def zt11_53 (h : Nat) : ZB := [(0, [zf_ald 0, zf_getI 11 14, zf_if .ne 11, zf_ic (-1), zf_go 20], 11),
  (11, [zf_ald 0, zf_getR 11 12, zf_ild 1, zf_ild 2, zf_inv h 1 16 2], 20),
  (20, [zf_reti], 21)]
theorem zT11_53 (h : Nat) : zTab h 11 53 3 (zt11_53 h) := zTab.mk (ret := (some .int)) (bl := xk11_53) (by decide +kernel) (by decide +kernel) rfl rfl
def zt11_54 (h : Nat) : ZB := [(0, [zf_ald 0, zf_getI 11 14, zf_if .ne 11, zf_ic (-1), zf_go 18], 11),
  (11, [zf_ald 0, zf_getR 11 12, zf_getI 1 11], 18),
  (18, [zf_reti], 19)]
theorem zT11_54 (h : Nat) : zTab h 11 54 1 (zt11_54 h) := zTab.mk (ret := (some .int)) (bl := xk11_54) (by decide +kernel) (by decide +kernel) rfl rfl
def zt11_55 (h : Nat) : ZB := [(0, [zf_ald 0, zf_getR 11 9, zf_ild 1, zf_ild 2, zf_ild 3, zf_inv h 0 28 3, zf_reti], 11)]
theorem zT11_55 (h : Nat) : zTab h 11 55 4 (zt11_55 h) := zTab.mk (ret := (some .int)) (bl := xk11_55) (by decide +kernel) (by decide +kernel) rfl rfl
def zt11_56 (h : Nat) : ZB := [(0, [zf_ald 0, zf_ald 0, zf_getR 11 19, zf_ild 1, zf_inv h 5 24 1, zf_inv h 11 22 1, zf_retz], 13)]
theorem zT11_56 (h : Nat) : zTab h 11 56 2 (zt11_56 h) := zTab.mk (ret := (some .boolean)) (bl := xk11_56) (by decide +kernel) (by decide +kernel) rfl rfl
def zt11_57 (h : Nat) : ZB := [(0, [zf_ic 1, zf_ild 0, zf_ild 1, zf_min, zf_max, zf_reti], 10)]
theorem zT11_57 (h : Nat) : zTab h 11 57 2 (zt11_57 h) := zTab.mk (ret := (some .int)) (bl := xk11_57) (by decide +kernel) (by decide +kernel) rfl rfl
def zt11_58 (h : Nat) : ZB := [(0, [zf_ald 0, zf_getR 11 4, zf_ild 1, zf_inv h 2 19 1, zf_reti], 9)]
theorem zT11_58 (h : Nat) : zTab h 11 58 2 (zt11_58 h) := zTab.mk (ret := (some .int)) (bl := xk11_58) (by decide +kernel) (by decide +kernel) rfl rfl
def zt12_0 (h : Nat) : ZB := [(0, [zf_ild 1, zf_ic 14, zf_ic2 .ne 41, zf_ald 0, zf_getI 12 38, zf_ic 8, zf_ic2 .ge 40, zf_ald 0, zf_getR 12 39, zf_ald 0, zf_getI 12 38, zf_ald 0, zf_getR 12 10, zf_ild 2, zf_aldI 100, zf_astI, zf_ald 0, zf_dup, zf_getI 12 38, zf_ic 1, zf_add, zf_putI 12 38], 40),
  (40, [zf_ret], 41),
  (41, [zf_ild 1, zf_ic 15, zf_ic2 .ne 53, zf_ald 0, zf_ild 2, zf_inv h 12 5 1, zf_ret], 53),
  (53, [zf_ald 0, zf_ald 0, zf_getR 12 10, zf_ild 2, zf_aldI 100, zf_inv h 12 4 1, zf_if .ne 82, zf_ald 0, zf_ald 0, zf_getI 12 66, zf_ald 0, zf_getI 12 51, zf_ic 0, zf_inv h 12 38 3, zf_go 226], 82),
  (82, [zf_ild 1, zf_ic 4, zf_ic2 .ne 123, zf_ald 0, zf_getI 12 36, zf_ic 40, zf_ic2 .ge 226, zf_ald 0, zf_getR 12 37, zf_ald 0, zf_getI 12 36, zf_ald 0, zf_getL 12 65, zf_l2i, zf_astI, zf_ald 0, zf_dup, zf_getI 12 36, zf_ic 1, zf_add, zf_putI 12 36, zf_go 226], 123),
  (123, [zf_ild 1, zf_ic 12, zf_ic2 .ne 146, zf_ald 0, zf_ic 4, zf_ald 0, zf_getI 12 51, zf_ald 0, zf_getL 12 65, zf_l2i, zf_inv h 12 38 3, zf_go 226], 146),
  (146, [zf_ild 1, zf_ic 13, zf_ic2 .ne 177, zf_ald 0, zf_ald 0, zf_getL 12 65, zf_inv h 12 1 1, zf_ic (-1), zf_ic2 .ne 226, zf_ald 0, zf_ic 3, zf_ald 0, zf_getI 12 51, zf_ic 0, zf_inv h 12 38 3, zf_go 226], 177),
  (177, [zf_ild 1, zf_ic 16, zf_ic2 .ne 207, zf_ald 0, zf_ald 0, zf_getL 12 65, zf_inv h 12 30 1, zf_if .ne 226, zf_ald 0, zf_ic 3, zf_ald 0, zf_getI 12 51, zf_ic 0, zf_inv h 12 38 3, zf_go 226], 207),
  (207, [zf_ald 0, zf_getL 12 65, zf_lc 0, zf_lcmp, zf_if .ne 226, zf_ald 0, zf_ald 0, zf_getR 12 11, zf_ild 2, zf_aldI 100, zf_putI 12 52], 226),
  (226, [zf_ret], 227)]
theorem zT12_0 (h : Nat) : zTab h 12 0 3 (zt12_0 h) := zTab.mk (ret := none) (bl := xk12_0) (by decide +kernel) (by decide +kernel) rfl rfl
def zt12_1 (h : Nat) : ZB := [(0, [zf_ald 0, zf_getI 12 28, zf_ic 12, zf_ic2 .ne 11, zf_ic (-1), zf_reti], 11),
  (11, [zf_ic 0, zf_ist 3], 13),
  (13, [zf_ild 3, zf_ic 6, zf_ic2 .ge 48, zf_ald 0, zf_getR 12 29, zf_ic 6, zf_ald 0, zf_getI 12 28, zf_mul, zf_ild 3, zf_add, zf_ild 3, zf_if .ne 40, zf_lld 1, zf_go 41], 40),
  (40, [zf_lc 0], 41),
  (41, [zf_astL, zf_inc 3 1, zf_go 13], 48),
  (48, [zf_ald 0, zf_dup, zf_getI 12 28, zf_ic 1, zf_add, zf_putI 12 28, zf_ald 0, zf_getI 12 28, zf_ic 1, zf_sub, zf_reti], 65)]
theorem zT12_1 (h : Nat) : zTab h 12 1 4 (zt12_1 h) := zTab.mk (ret := (some .int)) (bl := xk12_1) (by decide +kernel) (by decide +kernel) rfl rfl
def zt12_2 (h : Nat) : ZB := [(0, [zf_ald 0, zf_ic 0, zf_putI 12 0, zf_ild 1, zf_if .lt 17, zf_ild 1, zf_ald 0, zf_getI 12 38, zf_ic2 .lt 19], 17),
  (17, [zf_ic (-1), zf_reti], 19),
  (19, [zf_ald 0, zf_ald 0, zf_getR 12 39, zf_ild 1, zf_aldI 100, zf_inv h 12 4 1, zf_if .ne 37, zf_ic (-2), zf_go 51], 37),
  (37, [zf_ald 0, zf_getL 12 65, zf_lc 0, zf_lcmp, zf_if .eq 50, zf_ic 1, zf_go 51], 50),
  (50, [zf_ic 0], 51),
  (51, [zf_reti], 52)]
theorem zT12_2 (h : Nat) : zTab h 12 2 2 (zt12_2 h) := zTab.mk (ret := (some .int)) (bl := xk12_2) (by decide +kernel) (by decide +kernel) rfl rfl
def zt12_3 (h : Nat) : ZB := [(0, [zf_ald 0, zf_getR 12 11, zf_ic 600, zf_ald 0, zf_getI 12 15, zf_mul, zf_ild 1, zf_add, zf_ald 0, zf_getI 12 18, zf_astI, zf_ret], 20)]
theorem zT12_3 (h : Nat) : zTab h 12 3 2 (zt12_3 h) := zTab.mk (ret := none) (bl := xk12_3) (by decide +kernel) (by decide +kernel) rfl rfl
def zt12_4 (h : Nat) : ZB := [(0, [zf_ic 0, zf_ist 2, zf_ald 0, zf_ic 0, zf_putI 12 66, zf_ic 1000, zf_ald 0, zf_getI 12 3, zf_mul, zf_ild 1, zf_add, zf_ist 3], 18),
  (18, [zf_ald 0, zf_getR 12 13, zf_ild 3, zf_aldI 100, zf_if .eq 348, zf_ald 0, zf_getI 12 66, zf_if .ne 348, zf_ald 0, zf_getR 12 13, zf_ild 3, zf_aldI 100, zf_ist 4, zf_ild 2, zf_if .le 57, zf_ald 0, zf_getR 12 64, zf_ild 2, zf_ic 1, zf_sub, zf_aldL, zf_go 58], 57),
  (57, [zf_lc 0], 58),
  (58, [zf_lst 5, zf_ild 4, zf_ic 48, zf_ic2 .eq 81, zf_ild 4, zf_ic 97, zf_ic2 .eq 81, zf_ild 4, zf_ic 35, zf_ic2 .ne 136], 81),
  (81, [zf_ald 0, zf_getR 12 64, zf_ild 2, zf_ild 4, zf_ic 48, zf_ic2 .ne 103, zf_ald 0, zf_getR 12 14, zf_ild 3, zf_aldI 100, zf_i2l, zf_go 129], 103),
  (103, [zf_ild 4, zf_ic 97, zf_ic2 .ne 124, zf_ald 0, zf_getR 12 33, zf_ald 0, zf_getR 12 14, zf_ild 3, zf_aldI 100, zf_aldL, zf_go 129], 124),
  (124, [zf_ald 0, zf_getI 12 28, zf_i2l], 129),
  (129, [zf_astL, zf_inc 2 1, zf_go 342], 136),
  (136, [zf_ild 4, zf_ic 95, zf_ic2 .ne 158, zf_ald 0, zf_getR 12 64, zf_ild 2, zf_ic 1, zf_sub, zf_lc 0, zf_lld 5, zf_lsub, zf_astL, zf_go 342], 158),
  (158, [zf_ild 4, zf_ic 64, zf_ic2 .ne 219, zf_ald 0, zf_ald 0, zf_lld 5, zf_inv h 12 28 1, zf_if .eq 179, zf_ic 0, zf_go 180], 179),
  (179, [zf_ic 2], 180),
  (180, [zf_putI 12 66, zf_ald 0, zf_getI 12 66, zf_if .ne 342, zf_ald 0, zf_getR 12 64, zf_ild 2, zf_ic 1, zf_sub, zf_ald 0, zf_getR 12 29, zf_ic 6, zf_lld 5, zf_l2i, zf_mul, zf_ald 0, zf_getR 12 14, zf_ild 3, zf_aldI 100, zf_add, zf_aldL, zf_astL, zf_go 342], 219),
  (219, [zf_ild 4, zf_ic 39, zf_ic2 .ne 279, zf_ald 0, zf_lld 5, zf_lc 0, zf_lcmp, zf_if .lt 249, zf_lld 5, zf_ald 0, zf_getI 12 30, zf_i2l, zf_lcmp, zf_if .ge 249, zf_ic 0, zf_go 250], 249),
  (249, [zf_ic 2], 250),
  (250, [zf_putI 12 66, zf_ald 0, zf_getI 12 66, zf_if .ne 342, zf_ald 0, zf_getR 12 64, zf_ild 2, zf_ic 1, zf_sub, zf_ald 0, zf_getR 12 31, zf_lld 5, zf_l2i, zf_aldL, zf_astL, zf_go 342], 279),
  (279, [zf_ald 0, zf_lld 5, zf_lc 0, zf_lcmp, zf_if .ne 305, zf_ild 4, zf_ic 47, zf_ic2 .eq 301, zf_ild 4, zf_ic 37, zf_ic2 .ne 305], 301),
  (301, [zf_ic 1, zf_go 306], 305),
  (305, [zf_ic 0], 306),
  (306, [zf_putI 12 66, zf_inc 2 (-1), zf_ald 0, zf_getI 12 66, zf_if .ne 342, zf_ald 0, zf_getR 12 64, zf_ild 2, zf_ic 1, zf_sub, zf_ild 4, zf_ald 0, zf_getR 12 64, zf_ild 2, zf_ic 1, zf_sub, zf_aldL, zf_lld 5, zf_inst h 12 47 3, zf_astL], 342),
  (342, [zf_inc 3 1, zf_go 18], 348),
  (348, [zf_ald 0, zf_ild 2, zf_if .le 364, zf_ald 0, zf_getR 12 64, zf_ild 2, zf_ic 1, zf_sub, zf_aldL, zf_go 365], 364),
  (364, [zf_lc 0], 365),
  (365, [zf_putL 12 65, zf_ald 0, zf_getI 12 66, zf_if .ne 379, zf_ic 1, zf_go 380], 379),
  (379, [zf_ic 0], 380),
  (380, [zf_retz], 381)]
theorem zT12_4 (h : Nat) : zTab h 12 4 7 (zt12_4 h) := zTab.mk (ret := (some .boolean)) (bl := xk12_4) (by decide +kernel) (by decide +kernel) rfl rfl
def zt12_5 (h : Nat) : ZB := [(0, [zf_ald 0, zf_getR 12 33, zf_ic 25, zf_aldL, zf_lst 2, zf_ic 0, zf_ist 4, zf_ic 0, zf_ist 5], 14),
  (14, [zf_ild 5, zf_ald 0, zf_getI 12 28, zf_ic2 .ge 84, zf_ald 0, zf_getR 12 33, zf_ic 25, zf_ild 5, zf_i2l, zf_astL, zf_ald 0, zf_ald 0, zf_getR 12 10, zf_ild 1, zf_aldI 100, zf_inv h 12 4 1, zf_if .ne 60, zf_ald 0, zf_ald 0, zf_getI 12 66, zf_ald 0, zf_getI 12 51, zf_ic 0, zf_inv h 12 38 3, zf_ret], 60),
  (60, [zf_ald 0, zf_getL 12 65, zf_lc 0, zf_lcmp, zf_if .eq 78, zf_ild 4, zf_ic 1, zf_ild 5, zf_bit zshl, zf_bit zor, zf_ist 4], 78),
  (78, [zf_inc 5 1, zf_go 14], 84),
  (84, [zf_ald 0, zf_getR 12 33, zf_ic 25, zf_lld 2, zf_astL, zf_ald 0, zf_ic 0, zf_putI 12 40, zf_ic 0, zf_ist 5], 100),
  (100, [zf_ild 5, zf_ald 0, zf_getI 12 28, zf_ic2 .ge 149, zf_ild 4, zf_ild 5, zf_bit zshr, zf_ic 1, zf_bit zand, zf_if .ne 122, zf_go 143], 122),
  (122, [zf_ald 0, zf_getR 12 41, zf_ald 0, zf_getI 12 40, zf_ild 5, zf_astI, zf_ald 0, zf_dup, zf_getI 12 40, zf_ic 1, zf_add, zf_putI 12 40], 143),
  (143, [zf_inc 5 1, zf_go 100], 149),
  (149, [zf_ret], 150)]
theorem zT12_5 (h : Nat) : zTab h 12 5 6 (zt12_5 h) := zTab.mk (ret := none) (bl := xk12_5) (by decide +kernel) (by decide +kernel) rfl rfl
def zt12_6 (h : Nat) : ZB := [(0, [zf_ald 0, zf_getR 12 56, zf_ald 0, zf_getI 12 55, zf_ic 1, zf_sub, zf_ic 10, zf_astI, zf_ald 0, zf_getI 12 42, zf_ic 20, zf_ic2 .ne 23, zf_ret], 23),
  (23, [zf_ald 0, zf_getR 12 43, zf_ald 0, zf_getI 12 42, zf_ild 1, zf_astI, zf_ald 0, zf_dup, zf_getI 12 42, zf_ic 1, zf_add, zf_putI 12 42, zf_ret], 44)]
theorem zT12_6 (h : Nat) : zTab h 12 6 2 (zt12_6 h) := zTab.mk (ret := none) (bl := xk12_6) (by decide +kernel) (by decide +kernel) rfl rfl
def zt12_7 (h : Nat) : ZB := [(0, [zf_ald 0, zf_getR 12 12, zf_ic 26, zf_ald 0, zf_getI 12 3, zf_mul, zf_ild 1, zf_add, zf_aldI 100, zf_ist 2, zf_ild 2, zf_ic (-1), zf_ic2 .ne 32, zf_ald 0, zf_ic 6, zf_ald 0, zf_getI 12 51, zf_ic 0, zf_inv h 12 38 3, zf_ret], 32),
  (32, [zf_ald 0, zf_getI 12 53, zf_ic 2, zf_ic2 .ne 51, zf_ald 0, zf_ic 5, zf_ald 0, zf_getI 12 51, zf_ic 0, zf_inv h 12 38 3, zf_ret], 51),
  (51, [zf_ald 0, zf_getR 12 54, zf_ald 0, zf_getI 12 53, zf_ald 0, zf_getI 12 52, zf_astI, zf_ald 0, zf_dup, zf_getI 12 53, zf_ic 1, zf_add, zf_putI 12 53, zf_ald 0, zf_ild 2, zf_putI 12 52, zf_ret], 80)]
theorem zT12_7 (h : Nat) : zTab h 12 7 3 (zt12_7 h) := zTab.mk (ret := none) (bl := xk12_7) (by decide +kernel) (by decide +kernel) rfl rfl
def zt12_8 (h : Nat) : ZB := [(0, [zf_ald 0, zf_getR 12 22, zf_ald 0, zf_getI 12 21, zf_ic 1, zf_sub, zf_aldI 100, zf_ist 1, zf_ald 0, zf_getR 12 23, zf_ald 0, zf_getI 12 21, zf_ic 1, zf_sub, zf_aldI 100, zf_ist 2, zf_ald 0, zf_getR 12 7, zf_ic 600, zf_ald 0, zf_getI 12 15, zf_mul, zf_ild 2, zf_add, zf_aldI 100, zf_ist 3, zf_ald 0, zf_dup, zf_getI 12 16, zf_ic 1, zf_add, zf_putI 12 16, zf_ald 0, zf_dup, zf_getI 12 21, zf_ic 1, zf_sub, zf_putI 12 21, zf_ild 1, zf_ic 1, zf_ic2 .ne 108, zf_ald 0, zf_inv h 12 36 0, zf_ic 123, zf_ic2 .ne 100, zf_ald 0, zf_ic 17, zf_ild 3, zf_inv h 12 34 2, zf_ist 4, zf_ald 0, zf_ild 2, zf_inv h 12 3 1, zf_ald 0, zf_ic 2, zf_ic 123, zf_ild 4, zf_inv h 12 33 3, zf_go 236], 100),
  (100, [zf_ald 0, zf_ild 2, zf_inv h 12 3 1, zf_go 236], 108),
  (108, [zf_ild 1, zf_ic 2, zf_ic2 .ne 121, zf_ald 0, zf_ild 2, zf_inv h 12 3 1, zf_go 236], 121),
  (121, [zf_ild 1, zf_ic 3, zf_ic2 .ne 160, zf_ald 0, zf_ic 17, zf_ild 3, zf_inv h 12 34 2, zf_ist 4, zf_ald 0, zf_getR 12 11, zf_ic 600, zf_ald 0, zf_getI 12 15, zf_mul, zf_ild 4, zf_add, zf_ild 2, zf_astI, zf_ald 0, zf_ild 2, zf_inv h 12 3 1, zf_go 236], 160),
  (160, [zf_ild 1, zf_ic 4, zf_ic2 .ne 176, zf_ald 0, zf_ic 8, zf_ild 3, zf_inv h 12 34 2, zf_pop, zf_go 236], 176),
  (176, [zf_ild 1, zf_ic 5, zf_ic2 .ne 206, zf_ald 0, zf_ild 2, zf_inv h 12 3 1, zf_ald 0, zf_ic 10, zf_ild 3, zf_inv h 12 34 2, zf_pop, zf_ald 0, zf_ic 6, zf_ic 123, zf_ild 2, zf_inv h 12 33 3, zf_go 236], 206),
  (206, [zf_ild 1, zf_ic 6, zf_ic2 .ne 223, zf_ald 0, zf_ic 11, zf_ild 3, zf_inv h 12 34 2, zf_pop, zf_go 236], 223),
  (223, [zf_ald 0, zf_ic 19, zf_ild 3, zf_inv h 12 34 2, zf_pop, zf_ald 0, zf_ild 2, zf_inv h 12 3 1], 236),
  (236, [zf_ret], 237)]
theorem zT12_8 (h : Nat) : zTab h 12 8 5 (zt12_8 h) := zTab.mk (ret := none) (bl := xk12_8) (by decide +kernel) (by decide +kernel) rfl rfl
def zt12_9 (h : Nat) : ZB := [(0, [zf_ald 0, zf_dup, zf_getI 12 55, zf_ic 1, zf_sub, zf_putI 12 55, zf_ald 0, zf_getI 12 55, zf_ist 1, zf_ald 0, zf_getR 12 59, zf_ild 1, zf_aldI 100, zf_if .eq 46, zf_ald 0, zf_ald 0, zf_getR 12 59, zf_ild 1, zf_aldI 100, zf_ald 0, zf_getR 12 60, zf_ild 1, zf_aldI 100, zf_ald 0, zf_getR 12 61, zf_ild 1, zf_aldI 100, zf_inv h 12 38 3], 46),
  (46, [zf_ret], 47)]
theorem zT12_9 (h : Nat) : zTab h 12 9 2 (zt12_9 h) := zTab.mk (ret := none) (bl := xk12_9) (by decide +kernel) (by decide +kernel) rfl rfl
def zt12_10 (h : Nat) : ZB := [(0, [zf_ald 0, zf_getR 12 13, zf_ic 1000, zf_ald 0, zf_getI 12 15, zf_mul, zf_ald 0, zf_getI 12 19, zf_add, zf_ild 1, zf_astI, zf_ald 0, zf_getR 12 14, zf_ic 1000, zf_ald 0, zf_getI 12 15, zf_mul, zf_ald 0, zf_getI 12 19, zf_add, zf_ild 2, zf_astI, zf_ald 0, zf_dup, zf_getI 12 19, zf_ic 1, zf_add, zf_putI 12 19, zf_ret], 49)]
theorem zT12_10 (h : Nat) : zTab h 12 10 3 (zt12_10 h) := zTab.mk (ret := none) (bl := xk12_10) (by decide +kernel) (by decide +kernel) rfl rfl
def zt12_11 (h : Nat) : ZB := [(0, [zf_ald 0, zf_getI 12 17, zf_ic (-1), zf_ic2 .ne 170, zf_ald 0, zf_getI 12 25, zf_if .le 170, zf_ald 0, zf_getR 12 26, zf_ald 0, zf_getI 12 25, zf_ic 1, zf_sub, zf_aldI 100, zf_ic 95, zf_ic2 .eq 63, zf_ald 0, zf_getR 12 26, zf_ald 0, zf_getI 12 25, zf_ic 1, zf_sub, zf_aldI 100, zf_ic 39, zf_ic2 .eq 63, zf_ald 0, zf_getR 12 26, zf_ald 0, zf_getI 12 25, zf_ic 1, zf_sub, zf_aldI 100, zf_ic 64, zf_ic2 .ne 170], 63),
  (63, [zf_ald 0, zf_getR 12 26, zf_ald 0, zf_getI 12 25, zf_ic 1, zf_sub, zf_aldI 100, zf_ist 1, zf_ic 0, zf_ist 2, zf_ild 1, zf_ic 64, zf_ic2 .ne 132, zf_ald 0, zf_ic 58, zf_inv h 12 16 1, zf_ald 0, zf_inv h 12 36 0, zf_ic 48, zf_sub, zf_ist 2, zf_ald 0, zf_getI 12 17, zf_ic (-1), zf_ic2 .ne 122, zf_ild 2, zf_if .lt 114, zf_ild 2, zf_ic 5, zf_ic2 .le 122], 114),
  (114, [zf_ald 0, zf_ald 0, zf_getI 12 16, zf_putI 12 17], 122),
  (122, [zf_ald 0, zf_dup, zf_getI 12 16, zf_ic 1, zf_add, zf_putI 12 16], 132),
  (132, [zf_ald 0, zf_getI 12 17, zf_ic (-1), zf_ic2 .eq 141, zf_ret], 141),
  (141, [zf_ald 0, zf_ild 1, zf_ild 2, zf_inv h 12 10 2, zf_ald 0, zf_dup, zf_getI 12 25, zf_ic 1, zf_sub, zf_putI 12 25, zf_ald 0, zf_dup, zf_getI 12 27, zf_ic 1, zf_sub, zf_putI 12 27, zf_go 0], 170),
  (170, [zf_ret], 171)]
theorem zT12_11 (h : Nat) : zTab h 12 11 3 (zt12_11 h) := zTab.mk (ret := none) (bl := xk12_11) (by decide +kernel) (by decide +kernel) rfl rfl
def zt12_12 (h : Nat) : ZB := [(0, [zf_ald 0, zf_getI 12 25, zf_if .le 52, zf_ald 0, zf_getR 12 26, zf_ald 0, zf_getI 12 25, zf_ic 1, zf_sub, zf_aldI 100, zf_inst h 12 52 1, zf_ild 1, zf_ic2 .lt 52, zf_ald 0, zf_dup, zf_getI 12 25, zf_ic 1, zf_sub, zf_putI 12 25, zf_ald 0, zf_ald 0, zf_getR 12 26, zf_ald 0, zf_getI 12 25, zf_aldI 100, zf_ic 0, zf_inv h 12 10 2, zf_go 0], 52),
  (52, [zf_ret], 53)]
theorem zT12_12 (h : Nat) : zTab h 12 12 2 (zt12_12 h) := zTab.mk (ret := none) (bl := xk12_12) (by decide +kernel) (by decide +kernel) rfl rfl
def zt12_13 (h : Nat) : ZB := [(0, [zf_ald 0, zf_ic 0, zf_putI 12 1, zf_ald 0, zf_ic 0, zf_putI 12 28, zf_ald 0, zf_ic 0, zf_putI 12 30, zf_ald 0, zf_ic (-1), zf_putI 12 32, zf_ic 0, zf_ist 1], 22),
  (22, [zf_ild 1, zf_ic 2, zf_ic2 .ge 40, zf_ald 0, zf_getR 12 4, zf_ild 1, zf_ic 0, zf_astI, zf_inc 1 1, zf_go 22], 40),
  (40, [zf_ald 0, zf_getR 12 6, zf_ic 600, zf_ald 0, zf_getI 12 3, zf_mul, zf_ic 20, zf_astI, zf_ald 0, zf_inv h 12 18 0, zf_ret], 60)]
theorem zT12_13 (h : Nat) : zTab h 12 13 2 (zt12_13 h) := zTab.mk (ret := none) (bl := xk12_13) (by decide +kernel) (by decide +kernel) rfl rfl
def zt12_14 (h : Nat) : ZB := [(0, [zf_ald 0, zf_getI 12 32, zf_ic (-1), zf_ic2 .eq 37, zf_ald 0, zf_getR 12 58, zf_ald 0, zf_getI 12 55, zf_ic 1, zf_sub, zf_aldI 100, zf_ald 0, zf_getI 12 32, zf_ic2 .ne 37, zf_ald 0, zf_ic 7, zf_ild 1, zf_ic 0, zf_inv h 12 38 3, zf_go 47], 37),
  (37, [zf_ald 0, zf_dup, zf_getI 12 55, zf_ic 1, zf_sub, zf_putI 12 55], 47),
  (47, [zf_ret], 48)]
theorem zT12_14 (h : Nat) : zTab h 12 14 2 (zt12_14 h) := zTab.mk (ret := none) (bl := xk12_14) (by decide +kernel) (by decide +kernel) rfl rfl
def zt12_15 (h : Nat) : ZB := [(0, [zf_ald 0, zf_ild 1, zf_if .lt 14, zf_ild 1, zf_ic 3, zf_ic2 .ge 14, zf_ic 0, zf_go 15], 14),
  (14, [zf_ic 1], 15),
  (15, [zf_putI 12 0, zf_ald 0, zf_getI 12 0, zf_if .eq 27, zf_ic 0, zf_reti], 27),
  (27, [zf_ild 1, zf_if .ne 38, zf_ald 0, zf_getI 12 46, zf_go 54], 38),
  (38, [zf_ild 1, zf_ic 1, zf_ic2 .ne 50, zf_ald 0, zf_getI 12 47, zf_go 54], 50),
  (50, [zf_ald 0, zf_getI 12 48], 54),
  (54, [zf_reti], 55)]
theorem zT12_15 (h : Nat) : zTab h 12 15 2 (zt12_15 h) := zTab.mk (ret := (some .int)) (bl := xk12_15) (by decide +kernel) (by decide +kernel) rfl rfl
def zt12_16 (h : Nat) : ZB := [(0, [zf_ald 0, zf_getI 12 17, zf_ic (-1), zf_ic2 .eq 9, zf_ret], 9),
  (9, [zf_ald 0, zf_inv h 12 36 0, zf_ild 1, zf_ic2 .ne 30, zf_ald 0, zf_dup, zf_getI 12 16, zf_ic 1, zf_add, zf_putI 12 16, zf_go 38], 30),
  (30, [zf_ald 0, zf_ald 0, zf_getI 12 16, zf_putI 12 17], 38),
  (38, [zf_ret], 39)]
theorem zT12_16 (h : Nat) : zTab h 12 16 2 (zt12_16 h) := zTab.mk (ret := none) (bl := xk12_16) (by decide +kernel) (by decide +kernel) rfl rfl
def zt12_17 (h : Nat) : ZB := [(0, [zf_ald 0, zf_ald 0, zf_ild 1, zf_ild 2, zf_inv h 12 25 2, zf_if .eq 14, zf_ic 0, zf_go 15], 14),
  (14, [zf_ic 1], 15),
  (15, [zf_putI 12 0, zf_ald 0, zf_getI 12 0, zf_if .ne 41, zf_ald 0, zf_getR 12 29, zf_ic 6, zf_ild 1, zf_mul, zf_ild 2, zf_add, zf_aldL, zf_lld 3, zf_lcmp, zf_if .ne 43], 41),
  (41, [zf_ic 0, zf_retz], 43),
  (43, [zf_ald 0, zf_getR 12 29, zf_ic 6, zf_ild 1, zf_mul, zf_ild 2, zf_add, zf_lld 3, zf_astL, zf_ic 1, zf_retz], 57)]
theorem zT12_17 (h : Nat) : zTab h 12 17 5 (zt12_17 h) := zTab.mk (ret := (some .boolean)) (bl := xk12_17) (by decide +kernel) (by decide +kernel) rfl rfl
def zt12_18 (h : Nat) : ZB := [(0, [zf_ic 0, zf_ist 1], 2),
  (2, [zf_ild 1, zf_ic 26, zf_ic2 .ge 21, zf_ald 0, zf_getR 12 33, zf_ild 1, zf_lc 0, zf_astL, zf_inc 1 1, zf_go 2], 21),
  (21, [zf_ald 0, zf_lc 0, zf_putL 12 35, zf_ald 0, zf_ic 0, zf_putI 12 36, zf_ald 0, zf_ic 0, zf_putI 12 38, zf_ald 0, zf_ic 0, zf_putI 12 40, zf_ald 0, zf_ic 0, zf_putI 12 42, zf_ald 0, zf_ic 0, zf_putZ 12 44, zf_ald 0, zf_ic 0, zf_putI 12 45, zf_ald 0, zf_ic 0, zf_putI 12 46, zf_ald 0, zf_ic (-1), zf_putI 12 47, zf_ald 0, zf_ic 0, zf_putI 12 48, zf_ret], 72)]
theorem zT12_18 (h : Nat) : zTab h 12 18 2 (zt12_18 h) := zTab.mk (ret := none) (bl := xk12_18) (by decide +kernel) (by decide +kernel) rfl rfl
def zt12_19 (h : Nat) : ZB := [(0, [zf_ald 0, zf_getI 12 55, zf_ist 3, zf_ald 0, zf_getR 12 56, zf_ild 3, zf_ild 1, zf_astI, zf_ald 0, zf_getR 12 57, zf_ild 3, zf_ald 0, zf_getI 12 53, zf_astI, zf_ald 0, zf_getR 12 58, zf_ild 3, zf_ild 2, zf_astI, zf_ald 0, zf_getR 12 59, zf_ild 3, zf_ic 0, zf_astI, zf_ald 0, zf_getR 12 63, zf_ild 3, zf_ald 0, zf_getI 12 28, zf_astI, zf_ic 0, zf_ist 4], 49),
  (49, [zf_ild 4, zf_ic 72, zf_ic2 .ge 87, zf_ild 1, zf_ic 7, zf_ic2 .ne 87, zf_ald 0, zf_getR 12 62, zf_ic 72, zf_ild 3, zf_mul, zf_ild 4, zf_add, zf_ald 0, zf_getR 12 29, zf_ild 4, zf_aldL, zf_astL, zf_inc 4 1, zf_go 49], 87),
  (87, [zf_ald 0, zf_dup, zf_getI 12 55, zf_ic 1, zf_add, zf_putI 12 55, zf_ret], 98)]
theorem zT12_19 (h : Nat) : zTab h 12 19 5 (zt12_19 h) := zTab.mk (ret := none) (bl := xk12_19) (by decide +kernel) (by decide +kernel) rfl rfl
def zt12_20 (h : Nat) : ZB := [(0, [zf_ald 0, zf_getI 12 25, zf_ic 1, zf_sub, zf_ist 1], 7),
  (7, [zf_ild 1, zf_if .lt 43, zf_ald 0, zf_getR 12 26, zf_ild 1, zf_aldI 100, zf_ic 40, zf_ic2 .eq 43, zf_ald 0, zf_getR 12 26, zf_ild 1, zf_aldI 100, zf_inst h 12 52 1, zf_ic 1, zf_ic2 .ne 37, zf_ic 1, zf_retz], 37),
  (37, [zf_inc 1 (-1), zf_go 7], 43),
  (43, [zf_ic 0, zf_retz], 45)]
theorem zT12_20 (h : Nat) : zTab h 12 20 2 (zt12_20 h) := zTab.mk (ret := (some .boolean)) (bl := xk12_20) (by decide +kernel) (by decide +kernel) rfl rfl
def zt12_21 (h : Nat) : ZB := [(0, [zf_ic 0, zf_ist 1, zf_ic 0, zf_ist 2], 4),
  (4, [zf_ild 2, zf_ald 0, zf_getI 12 25, zf_ic2 .ge 39, zf_ild 1, zf_if .ne 27, zf_ald 0, zf_getR 12 26, zf_ild 2, zf_aldI 100, zf_ic 40, zf_ic2 .ne 31], 27),
  (27, [zf_ic 1, zf_go 32], 31),
  (31, [zf_ic 0], 32),
  (32, [zf_ist 1, zf_inc 2 1, zf_go 4], 39),
  (39, [zf_ild 1, zf_retz], 41)]
theorem zT12_21 (h : Nat) : zTab h 12 21 3 (zt12_21 h) := zTab.mk (ret := (some .boolean)) (bl := xk12_21) (by decide +kernel) (by decide +kernel) rfl rfl
def zt12_23 (h : Nat) : ZB := [(0, [zf_ild 0, zf_ic 48, zf_ic2 .lt 16, zf_ild 0, zf_ic 57, zf_ic2 .gt 16, zf_ic 1, zf_go 17], 16),
  (16, [zf_ic 0], 17),
  (17, [zf_retz], 18)]
theorem zT12_23 (h : Nat) : zTab h 12 23 1 (zt12_23 h) := zTab.mk (ret := (some .boolean)) (bl := xk12_23) (by decide +kernel) (by decide +kernel) rfl rfl
def zt12_24 (h : Nat) : ZB := [(0, [zf_ald 0, zf_getI 12 21, zf_if .le 40, zf_ald 0, zf_inv h 12 36 0, zf_ald 0, zf_getR 12 22, zf_ald 0, zf_getI 12 21, zf_ic 1, zf_sub, zf_aldI 100, zf_ic 4, zf_ic2 .ne 31, zf_ic 93, zf_go 33], 31),
  (31, [zf_ic 125], 33),
  (33, [zf_ic2 .ne 40, zf_ic 1, zf_go 41], 40),
  (40, [zf_ic 0], 41),
  (41, [zf_retz], 42)]
theorem zT12_24 (h : Nat) : zTab h 12 24 1 (zt12_24 h) := zTab.mk (ret := (some .boolean)) (bl := xk12_24) (by decide +kernel) (by decide +kernel) rfl rfl
def zt12_25 (h : Nat) : ZB := [(0, [zf_ald 0, zf_ild 1, zf_i2l, zf_inv h 12 28 1, zf_if .eq 23, zf_ild 2, zf_if .lt 23, zf_ild 2, zf_ic 6, zf_ic2 .ge 23, zf_ic 1, zf_go 24], 23),
  (23, [zf_ic 0], 24),
  (24, [zf_retz], 25)]
theorem zT12_25 (h : Nat) : zTab h 12 25 3 (zt12_25 h) := zTab.mk (ret := (some .boolean)) (bl := xk12_25) (by decide +kernel) (by decide +kernel) rfl rfl
def zt12_26 (h : Nat) : ZB := [(0, [zf_ild 0, zf_ic 65, zf_ic2 .lt 16, zf_ild 0, zf_ic 90, zf_ic2 .gt 16, zf_ic 1, zf_go 17], 16),
  (16, [zf_ic 0], 17),
  (17, [zf_retz], 18)]
theorem zT12_26 (h : Nat) : zTab h 12 26 1 (zt12_26 h) := zTab.mk (ret := (some .boolean)) (bl := xk12_26) (by decide +kernel) (by decide +kernel) rfl rfl
def zt12_27 (h : Nat) : ZB := [(0, [zf_ild 0, zf_ic 45, zf_ic2 .eq 24, zf_ild 0, zf_ic 40, zf_ic2 .eq 24, zf_ild 0, zf_ic 64, zf_ic2 .eq 24, zf_ild 0, zf_ic 39, zf_ic2 .ne 28], 24),
  (24, [zf_ic 1, zf_go 29], 28),
  (28, [zf_ic 0], 29),
  (29, [zf_retz], 30)]
theorem zT12_27 (h : Nat) : zTab h 12 27 1 (zt12_27 h) := zTab.mk (ret := (some .boolean)) (bl := xk12_27) (by decide +kernel) (by decide +kernel) rfl rfl
def zt12_28 (h : Nat) : ZB := [(0, [zf_lld 1, zf_lc 0, zf_lcmp, zf_if .lt 20, zf_lld 1, zf_ald 0, zf_getI 12 28, zf_i2l, zf_lcmp, zf_if .ge 20, zf_ic 1, zf_go 21], 20),
  (20, [zf_ic 0], 21),
  (21, [zf_retz], 22)]
theorem zT12_28 (h : Nat) : zTab h 12 28 3 (zt12_28 h) := zTab.mk (ret := (some .boolean)) (bl := xk12_28) (by decide +kernel) (by decide +kernel) rfl rfl
def zt12_29 (h : Nat) : ZB := [(0, [zf_ild 0, zf_ic 97, zf_ic2 .lt 16, zf_ild 0, zf_ic 122, zf_ic2 .gt 16, zf_ic 1, zf_go 17], 16),
  (16, [zf_ic 0], 17),
  (17, [zf_retz], 18)]
theorem zT12_29 (h : Nat) : zTab h 12 29 1 (zt12_29 h) := zTab.mk (ret := (some .boolean)) (bl := xk12_29) (by decide +kernel) (by decide +kernel) rfl rfl
def zt12_30 (h : Nat) : ZB := [(0, [zf_lld 1, zf_lc 0, zf_lcmp, zf_if .lt 14, zf_lld 1, zf_lc 20, zf_lcmp, zf_if .le 16], 14),
  (14, [zf_ic 0, zf_retz], 16),
  (16, [zf_ald 0, zf_lld 1, zf_l2i, zf_putI 12 30, zf_ic 0, zf_ist 3], 24),
  (24, [zf_ild 3, zf_ic 20, zf_ic2 .ge 43, zf_ald 0, zf_getR 12 31, zf_ild 3, zf_lc 0, zf_astL, zf_inc 3 1, zf_go 24], 43),
  (43, [zf_ic 1, zf_retz], 45)]
theorem zT12_30 (h : Nat) : zTab h 12 30 4 (zt12_30 h) := zTab.mk (ret := (some .boolean)) (bl := xk12_30) (by decide +kernel) (by decide +kernel) rfl rfl
def zt12_31 (h : Nat) : ZB := [(0, [zf_ald 0, zf_getI 12 27, zf_ic 3, zf_ic2 .ne 17, zf_ald 0, zf_ald 0, zf_getI 12 16, zf_putI 12 17, zf_ret], 17),
  (17, [zf_ald 0, zf_getR 12 26, zf_ald 0, zf_getI 12 25, zf_ild 1, zf_ic 45, zf_ic2 .ne 36, zf_ic 95, zf_go 37], 36),
  (36, [zf_ild 1], 37),
  (37, [zf_astI, zf_ald 0, zf_dup, zf_getI 12 25, zf_ic 1, zf_add, zf_putI 12 25, zf_ald 0, zf_dup, zf_getI 12 27, zf_ic 1, zf_add, zf_putI 12 27, zf_ald 0, zf_dup, zf_getI 12 16, zf_ic 1, zf_add, zf_putI 12 16, zf_ret], 69)]
theorem zT12_31 (h : Nat) : zTab h 12 31 2 (zt12_31 h) := zTab.mk (ret := none) (bl := xk12_31) (by decide +kernel) (by decide +kernel) rfl rfl
def zt12_32 (h : Nat) : ZB := [(0, [zf_ald 0, zf_ic 0, zf_putI 12 0, zf_ald 0, zf_ild 1, zf_i2l, zf_inv h 12 1 1, zf_reti], 12)]
theorem zT12_32 (h : Nat) : zTab h 12 32 2 (zt12_32 h) := zTab.mk (ret := (some .int)) (bl := xk12_32) (by decide +kernel) (by decide +kernel) rfl rfl
def zt12_33 (h : Nat) : ZB := [(0, [zf_ald 0, zf_getI 12 17, zf_ic (-1), zf_ic2 .eq 9, zf_ret], 9),
  (9, [zf_ald 0, zf_inv h 12 36 0, zf_ild 2, zf_ic2 .ne 25, zf_ald 0, zf_getI 12 21, zf_ic 2, zf_ic2 .ne 34], 25),
  (25, [zf_ald 0, zf_ald 0, zf_getI 12 16, zf_putI 12 17, zf_ret], 34),
  (34, [zf_ald 0, zf_dup, zf_getI 12 16, zf_ic 1, zf_add, zf_putI 12 16, zf_ald 0, zf_getR 12 22, zf_ald 0, zf_getI 12 21, zf_ild 1, zf_astI, zf_ald 0, zf_getR 12 23, zf_ald 0, zf_getI 12 21, zf_ild 3, zf_astI, zf_ald 0, zf_dup, zf_getI 12 21, zf_ic 1, zf_add, zf_putI 12 21, zf_ret], 75)]
theorem zT12_33 (h : Nat) : zTab h 12 33 4 (zt12_33 h) := zTab.mk (ret := none) (bl := xk12_33) (by decide +kernel) (by decide +kernel) rfl rfl
def zt12_34 (h : Nat) : ZB := [(0, [zf_ic 600, zf_ald 0, zf_getI 12 15, zf_mul, zf_ald 0, zf_getI 12 18, zf_add, zf_ist 3, zf_ald 0, zf_getR 12 6, zf_ild 3, zf_ild 1, zf_astI, zf_ald 0, zf_getR 12 7, zf_ild 3, zf_ild 2, zf_astI, zf_ald 0, zf_getR 12 8, zf_ild 3, zf_ic 0, zf_astI, zf_ald 0, zf_getR 12 9, zf_ild 3, zf_ic 0, zf_astI, zf_ald 0, zf_getR 12 10, zf_ild 3, zf_ic 0, zf_astI, zf_ald 0, zf_getR 12 11, zf_ild 3, zf_ic 0, zf_astI, zf_ald 0, zf_dup, zf_getI 12 18, zf_ic 1, zf_add, zf_putI 12 18, zf_ald 0, zf_getI 12 18, zf_ic 1, zf_sub, zf_reti], 73)]
theorem zT12_34 (h : Nat) : zTab h 12 34 4 (zt12_34 h) := zTab.mk (ret := (some .int)) (bl := xk12_34) (by decide +kernel) (by decide +kernel) rfl rfl
def zt12_35 (h : Nat) : ZB := [(0, [zf_ald 0, zf_ild 1, zf_if .lt 17, zf_ild 1, zf_ald 0, zf_getI 12 36, zf_ic2 .ge 17, zf_ic 0, zf_go 18], 17),
  (17, [zf_ic 1], 18),
  (18, [zf_putI 12 0, zf_ald 0, zf_getI 12 0, zf_if .ne 37, zf_ald 0, zf_getR 12 37, zf_ild 1, zf_aldI 100, zf_go 38], 37),
  (37, [zf_ic 0], 38),
  (38, [zf_reti], 39)]
theorem zT12_35 (h : Nat) : zTab h 12 35 2 (zt12_35 h) := zTab.mk (ret := (some .int)) (bl := xk12_35) (by decide +kernel) (by decide +kernel) rfl rfl
def zt12_36 (h : Nat) : ZB := [(0, [zf_ald 0, zf_getI 12 16, zf_ald 0, zf_getI 12 1, zf_ic2 .ge 23, zf_ald 0, zf_getR 12 2, zf_ald 0, zf_getI 12 16, zf_aldI 100, zf_go 24], 23),
  (23, [zf_ic (-1)], 24),
  (24, [zf_reti], 25)]
theorem zT12_36 (h : Nat) : zTab h 12 36 1 (zt12_36 h) := zTab.mk (ret := (some .int)) (bl := xk12_36) (by decide +kernel) (by decide +kernel) rfl rfl
def zt12_37 (h : Nat) : ZB := [(0, [zf_ald 0, zf_ald 0, zf_getR 12 63, zf_ild 1, zf_aldI 100, zf_putI 12 28, zf_ic 0, zf_ist 2], 12),
  (12, [zf_ild 2, zf_ic 72, zf_ic2 .ge 41, zf_ald 0, zf_getR 12 29, zf_ild 2, zf_ald 0, zf_getR 12 62, zf_ic 72, zf_ild 1, zf_mul, zf_ild 2, zf_add, zf_aldL, zf_astL, zf_inc 2 1, zf_go 12], 41),
  (41, [zf_ald 0, zf_ic 1, zf_putZ 12 44, zf_ret], 47)]
theorem zT12_37 (h : Nat) : zTab h 12 37 3 (zt12_37 h) := zTab.mk (ret := none) (bl := xk12_37) (by decide +kernel) (by decide +kernel) rfl rfl
def zt12_38 (h : Nat) : ZB := [(0, [zf_ild 1, zf_ist 4], 3),
  (3, [zf_ald 0, zf_getI 12 55, zf_if .le 126, zf_ald 0, zf_dup, zf_getI 12 55, zf_ic 1, zf_sub, zf_putI 12 55, zf_ald 0, zf_getI 12 55, zf_ist 5, zf_ald 0, zf_ald 0, zf_getR 12 57, zf_ild 5, zf_aldI 100, zf_putI 12 53, zf_ald 0, zf_getR 12 56, zf_ild 5, zf_aldI 100, zf_ic 7, zf_ic2 .ne 55, zf_ald 0, zf_ild 5, zf_inv h 12 37 1], 55),
  (55, [zf_ald 0, zf_getR 12 56, zf_ild 5, zf_aldI 100, zf_ic 9, zf_ic2 .eq 70, zf_go 3], 70),
  (70, [zf_ald 0, zf_getR 12 56, zf_ild 5, zf_ic 10, zf_astI, zf_ald 0, zf_getR 12 59, zf_ild 5, zf_ild 4, zf_astI, zf_ald 0, zf_getR 12 60, zf_ild 5, zf_ild 2, zf_astI, zf_ald 0, zf_getR 12 61, zf_ild 5, zf_ild 3, zf_astI, zf_ald 0, zf_dup, zf_getI 12 55, zf_ic 1, zf_add, zf_putI 12 55, zf_ald 0, zf_ald 0, zf_getR 12 58, zf_ild 5, zf_aldI 100, zf_putI 12 52, zf_ret], 126),
  (126, [zf_ald 0, zf_ild 4, zf_putI 12 46, zf_ald 0, zf_ild 2, zf_putI 12 47, zf_ald 0, zf_ild 3, zf_putI 12 48, zf_ald 0, zf_ic 1, zf_putI 12 50, zf_ald 0, zf_ic 1, zf_putZ 12 49, zf_ret], 153)]
theorem zT12_38 (h : Nat) : zTab h 12 38 6 (zt12_38 h) := zTab.mk (ret := none) (bl := xk12_38) (by decide +kernel) (by decide +kernel) rfl rfl
def zt12_39 (h : Nat) : ZB := [(0, [zf_ald 0, zf_ic 0, zf_putI 12 0, zf_ald 0, zf_ic 1, zf_ald 0, zf_getI 12 3, zf_sub, zf_putI 12 15, zf_ald 0, zf_ic 0, zf_putI 12 16, zf_ald 0, zf_ic (-1), zf_putI 12 17, zf_ald 0, zf_ic 0, zf_putI 12 18, zf_ald 0, zf_ic 0, zf_putI 12 19, zf_ald 0, zf_ic 0, zf_putI 12 20, zf_ald 0, zf_ic 0, zf_putI 12 21, zf_ic 0, zf_ist 1], 47),
  (47, [zf_ild 1, zf_ic 26, zf_ic2 .ge 74, zf_ald 0, zf_getR 12 12, zf_ic 26, zf_ald 0, zf_getI 12 15, zf_mul, zf_ild 1, zf_add, zf_ic (-1), zf_astI, zf_inc 1 1, zf_go 47], 74),
  (74, [zf_ald 0, zf_getI 12 17, zf_ic (-1), zf_ic2 .ne 172, zf_ald 0, zf_getI 12 16, zf_ald 0, zf_getI 12 1, zf_ic2 .lt 100, zf_ald 0, zf_getI 12 21, zf_if .le 172], 100),
  (100, [zf_ald 0, zf_inv h 12 36 0, zf_ic 10, zf_ic2 .ne 122, zf_ald 0, zf_dup, zf_getI 12 16, zf_ic 1, zf_add, zf_putI 12 16, zf_go 100], 122),
  (122, [zf_ald 0, zf_inv h 12 24 0, zf_if .eq 136, zf_ald 0, zf_inv h 12 8 0, zf_go 74], 136),
  (136, [zf_ald 0, zf_getI 12 16, zf_ald 0, zf_getI 12 1, zf_ic2 .ge 154, zf_ald 0, zf_inv h 12 46 0, zf_go 74], 154),
  (154, [zf_ald 0, zf_getI 12 21, zf_if .le 74, zf_ald 0, zf_ald 0, zf_getI 12 16, zf_putI 12 17, zf_go 74], 172),
  (172, [zf_ald 0, zf_getI 12 1, zf_ist 1, zf_ald 0, zf_ic 0, zf_putI 12 1, zf_ald 0, zf_getI 12 17, zf_ic (-1), zf_ic2 .eq 197, zf_ic (-1), zf_ald 0, zf_getI 12 17, zf_sub, zf_reti], 197),
  (197, [zf_ald 0, zf_ic 20, zf_ic 0, zf_inv h 12 34 2, zf_pop, zf_ic 0, zf_ist 2], 207),
  (207, [zf_ild 2, zf_ild 1, zf_ic2 .ge 239, zf_ald 0, zf_getR 12 5, zf_ic 400, zf_ald 0, zf_getI 12 15, zf_mul, zf_ild 2, zf_add, zf_ald 0, zf_getR 12 2, zf_ild 2, zf_aldI 100, zf_astI, zf_inc 2 1, zf_go 207], 239),
  (239, [zf_ald 0, zf_getR 12 4, zf_ald 0, zf_getI 12 15, zf_ild 1, zf_astI, zf_ald 0, zf_ald 0, zf_getI 12 15, zf_putI 12 3, zf_ald 0, zf_inv h 12 18 0, zf_ald 0, zf_getI 12 20, zf_reti], 266)]
theorem zT12_39 (h : Nat) : zTab h 12 39 3 (zt12_39 h) := zTab.mk (ret := (some .int)) (bl := xk12_39) (by decide +kernel) (by decide +kernel) rfl rfl
def zt12_40 (h : Nat) : ZB := [(0, [zf_ald 0, zf_dup, zf_getI 12 16, zf_ic 1, zf_add, zf_putI 12 16, zf_ald 0, zf_ild 1, zf_ild 3, zf_inv h 12 34 2, zf_ist 4, zf_ald 0, zf_getR 12 10, zf_ic 600, zf_ald 0, zf_getI 12 15, zf_mul, zf_ild 4, zf_add, zf_ald 0, zf_ic 1, zf_inv h 12 41 1, zf_astI, zf_ald 0, zf_ild 2, zf_ic 123, zf_ild 4, zf_inv h 12 33 3, zf_ret], 49)]
theorem zT12_40 (h : Nat) : zTab h 12 40 5 (zt12_40 h) := zTab.mk (ret := none) (bl := xk12_40) (by decide +kernel) (by decide +kernel) rfl rfl
def zt12_41 (h : Nat) : ZB := [(0, [zf_ald 0, zf_getI 12 19, zf_ist 2, zf_ald 0, zf_ic 0, zf_putI 12 25, zf_ald 0, zf_ic 0, zf_putI 12 27, zf_ic 1, zf_ist 3, zf_ic 1, zf_ist 4], 20),
  (20, [zf_ald 0, zf_getI 12 17, zf_ic (-1), zf_ic2 .ne 246, zf_ild 3, zf_if .eq 246, zf_ald 0, zf_inv h 12 36 0, zf_ist 5, zf_ild 4, zf_if .eq 60, zf_ild 5, zf_inst h 12 27 1, zf_if .eq 60, zf_ald 0, zf_ild 5, zf_inv h 12 31 1, zf_go 243], 60),
  (60, [zf_ild 4, zf_if .eq 75, zf_ald 0, zf_inv h 12 43 0, zf_ic 0, zf_ist 4, zf_go 243], 75),
  (75, [zf_ald 0, zf_getI 12 25, zf_if .ne 91, zf_ild 1, zf_if .ne 91, zf_ic 0, zf_ist 3, zf_go 243], 91),
  (91, [zf_ild 5, zf_inst h 12 52 1, zf_ic 1, zf_ic2 .gt 116, zf_ild 5, zf_inst h 12 52 1, zf_ic 1, zf_ic2 .ne 162, zf_ald 0, zf_inv h 12 20 0, zf_if .ne 162], 116),
  (116, [zf_ald 0, zf_ild 5, zf_inst h 12 52 1, zf_inv h 12 12 1, zf_ald 0, zf_getR 12 26, zf_ald 0, zf_getI 12 25, zf_ild 5, zf_astI, zf_ald 0, zf_dup, zf_getI 12 25, zf_ic 1, zf_add, zf_putI 12 25, zf_ald 0, zf_dup, zf_getI 12 16, zf_ic 1, zf_add, zf_putI 12 16, zf_ic 1, zf_ist 4, zf_go 243], 162),
  (162, [zf_ild 5, zf_ic 41, zf_ic2 .ne 218, zf_ald 0, zf_inv h 12 21 0, zf_if .eq 218, zf_ald 0, zf_ic 1, zf_inv h 12 12 1, zf_ald 0, zf_dup, zf_getI 12 25, zf_ic 1, zf_sub, zf_putI 12 25, zf_ald 0, zf_dup, zf_getI 12 27, zf_ic 1, zf_sub, zf_putI 12 27, zf_ald 0, zf_dup, zf_getI 12 16, zf_ic 1, zf_add, zf_putI 12 16, zf_ald 0, zf_inv h 12 11 0, zf_go 243], 218),
  (218, [zf_ald 0, zf_inv h 12 21 0, zf_if .eq 236, zf_ald 0, zf_ald 0, zf_getI 12 16, zf_putI 12 17, zf_go 243], 236),
  (236, [zf_ald 0, zf_ic 1, zf_inv h 12 12 1, zf_ic 0, zf_ist 3], 243),
  (243, [zf_go 20], 246),
  (246, [zf_ald 0, zf_getI 12 17, zf_ic (-1), zf_ic2 .ne 260, zf_ald 0, zf_ic 0, zf_ic 0, zf_inv h 12 10 2], 260),
  (260, [zf_ild 2, zf_reti], 262)]
theorem zT12_41 (h : Nat) : zTab h 12 41 6 (zt12_41 h) := zTab.mk (ret := (some .int)) (bl := xk12_41) (by decide +kernel) (by decide +kernel) rfl rfl
def zt12_42 (h : Nat) : ZB := [(0, [zf_ald 0, zf_dup, zf_getI 12 16, zf_ic 1, zf_add, zf_putI 12 16, zf_ald 0, zf_inv h 12 36 0, zf_ic 65, zf_sub, zf_ist 2, zf_ald 0, zf_inv h 12 36 0, zf_inst h 12 26 1, zf_if .ne 37, zf_ald 0, zf_ald 0, zf_getI 12 16, zf_putI 12 17, zf_ret], 37),
  (37, [zf_ald 0, zf_getI 12 21, zf_if .gt 62, zf_ald 0, zf_getR 12 12, zf_ic 26, zf_ald 0, zf_getI 12 15, zf_mul, zf_ild 2, zf_add, zf_aldI 100, zf_ic (-1), zf_ic2 .eq 68], 62),
  (62, [zf_ald 0, zf_ild 1, zf_putI 12 17, zf_ret], 68),
  (68, [zf_ald 0, zf_dup, zf_getI 12 16, zf_ic 1, zf_add, zf_putI 12 16, zf_ald 0, zf_ic 17, zf_ild 1, zf_inv h 12 34 2, zf_ist 3, zf_ald 0, zf_getR 12 12, zf_ic 26, zf_ald 0, zf_getI 12 15, zf_mul, zf_ild 2, zf_add, zf_ald 0, zf_getI 12 18, zf_astI, zf_ald 0, zf_ic 7, zf_ic 123, zf_ild 3, zf_inv h 12 33 3, zf_ret], 114)]
theorem zT12_42 (h : Nat) : zTab h 12 42 4 (zt12_42 h) := zTab.mk (ret := none) (bl := xk12_42) (by decide +kernel) (by decide +kernel) rfl rfl
def zt12_43 (h : Nat) : ZB := [(0, [zf_ald 0, zf_inv h 12 36 0, zf_ist 1, zf_ild 1, zf_inst h 12 23 1, zf_if .eq 70, zf_ic 0, zf_ist 2, zf_ic 0, zf_ist 3], 16),
  (16, [zf_ild 3, zf_ic 4, zf_ic2 .ge 60, zf_ald 0, zf_inv h 12 36 0, zf_inst h 12 23 1, zf_if .eq 60, zf_ic 10, zf_ild 2, zf_mul, zf_ald 0, zf_inv h 12 36 0, zf_add, zf_ic 48, zf_sub, zf_ist 2, zf_ald 0, zf_dup, zf_getI 12 16, zf_ic 1, zf_add, zf_putI 12 16, zf_inc 3 1, zf_go 16], 60),
  (60, [zf_ald 0, zf_ic 48, zf_ild 2, zf_inv h 12 10 2, zf_go 134], 70),
  (70, [zf_ild 1, zf_inst h 12 29 1, zf_if .eq 100, zf_ald 0, zf_ic 97, zf_ild 1, zf_ic 97, zf_sub, zf_inv h 12 10 2, zf_ald 0, zf_dup, zf_getI 12 16, zf_ic 1, zf_add, zf_putI 12 16, zf_go 134], 100),
  (100, [zf_ild 1, zf_ic 35, zf_ic2 .ne 126, zf_ald 0, zf_ic 35, zf_ic 0, zf_inv h 12 10 2, zf_ald 0, zf_dup, zf_getI 12 16, zf_ic 1, zf_add, zf_putI 12 16, zf_go 134], 126),
  (126, [zf_ald 0, zf_ald 0, zf_getI 12 16, zf_putI 12 17], 134),
  (134, [zf_ald 0, zf_inv h 12 11 0, zf_ret], 139)]
theorem zT12_43 (h : Nat) : zTab h 12 43 4 (zt12_43 h) := zTab.mk (ret := none) (bl := xk12_43) (by decide +kernel) (by decide +kernel) rfl rfl
def zt12_44 (h : Nat) : ZB := [(0, [zf_ald 0, zf_inv h 12 36 0, zf_ist 2, zf_ald 0, zf_ild 2, zf_ic 64, zf_ic2 .ne 16, zf_ic 2, zf_go 27], 16),
  (16, [zf_ild 2, zf_ic 39, zf_ic2 .ne 26, zf_ic 3, zf_go 27], 26),
  (26, [zf_ic 1], 27),
  (27, [zf_ild 1, zf_inv h 12 34 2, zf_ist 3, zf_ic 600, zf_ald 0, zf_getI 12 15, zf_mul, zf_ild 3, zf_add, zf_ist 4, zf_ald 0, zf_dup, zf_getI 12 16, zf_ic 1, zf_add, zf_putI 12 16, zf_ild 2, zf_inst h 12 29 1, zf_if .eq 75, zf_ald 0, zf_getR 12 8, zf_ild 4, zf_ild 2, zf_ic 97, zf_sub, zf_astI, zf_go 87], 75),
  (75, [zf_ald 0, zf_getR 12 9, zf_ild 4, zf_ald 0, zf_ic 0, zf_inv h 12 41 1, zf_astI], 87),
  (87, [zf_ild 2, zf_ic 64, zf_ic2 .ne 154, zf_ald 0, zf_ic 58, zf_inv h 12 16 1, zf_ald 0, zf_inv h 12 36 0, zf_ic 48, zf_sub, zf_ist 5, zf_ald 0, zf_getI 12 17, zf_ic (-1), zf_ic2 .ne 135, zf_ild 5, zf_if .lt 127, zf_ild 5, zf_ic 5, zf_ic2 .le 135], 127),
  (127, [zf_ald 0, zf_ald 0, zf_getI 12 16, zf_putI 12 17], 135),
  (135, [zf_ald 0, zf_dup, zf_getI 12 16, zf_ic 1, zf_add, zf_putI 12 16, zf_ald 0, zf_getR 12 8, zf_ild 4, zf_ild 5, zf_astI], 154),
  (154, [zf_ald 0, zf_ic 61, zf_inv h 12 16 1, zf_ald 0, zf_getI 12 17, zf_ic (-1), zf_ic2 .eq 169, zf_ret], 169),
  (169, [zf_ald 0, zf_getR 12 10, zf_ild 4, zf_ald 0, zf_ic 1, zf_inv h 12 41 1, zf_astI, zf_ald 0, zf_ic 59, zf_inv h 12 16 1, zf_ret], 188)]
theorem zT12_44 (h : Nat) : zTab h 12 44 6 (zt12_44 h) := zTab.mk (ret := none) (bl := xk12_44) (by decide +kernel) (by decide +kernel) rfl rfl
def zt12_45 (h : Nat) : ZB := [(0, [zf_ald 0, zf_dup, zf_getI 12 16, zf_ic 1, zf_add, zf_putI 12 16, zf_ald 0, zf_ild 1, zf_ild 2, zf_inv h 12 34 2, zf_ist 3, zf_ald 0, zf_getR 12 10, zf_ic 600, zf_ald 0, zf_getI 12 15, zf_mul, zf_ild 3, zf_add, zf_ald 0, zf_ic 1, zf_inv h 12 41 1, zf_astI, zf_ald 0, zf_ic 59, zf_inv h 12 16 1, zf_ild 3, zf_reti], 45)]
theorem zT12_45 (h : Nat) : zTab h 12 45 4 (zt12_45 h) := zTab.mk (ret := (some .int)) (bl := xk12_45) (by decide +kernel) (by decide +kernel) rfl rfl
def zt12_46 (h : Nat) : ZB := [(0, [zf_ald 0, zf_getI 12 16, zf_ist 1, zf_ald 0, zf_inv h 12 36 0, zf_ist 2, zf_ald 0, zf_getI 12 20, zf_ic 100, zf_ic2 .ne 28, zf_ald 0, zf_ald 0, zf_getI 12 16, zf_putI 12 17, zf_ret], 28),
  (28, [zf_ald 0, zf_dup, zf_getI 12 20, zf_ic 1, zf_add, zf_putI 12 20, zf_ild 2, zf_inst h 12 29 1, zf_if .ne 57, zf_ild 2, zf_ic 64, zf_ic2 .eq 57, zf_ild 2, zf_ic 39, zf_ic2 .ne 65], 57),
  (57, [zf_ald 0, zf_ild 1, zf_inv h 12 44 1, zf_go 253], 65),
  (65, [zf_ild 2, zf_inst h 12 49 1, zf_if .eq 85, zf_ald 0, zf_ild 2, zf_inst h 12 49 1, zf_ild 1, zf_inv h 12 45 2, zf_pop, zf_go 253], 85),
  (85, [zf_ild 2, zf_ic 63, zf_ic2 .ne 101, zf_ald 0, zf_ic 5, zf_ic 1, zf_ild 1, zf_inv h 12 40 3, zf_go 253], 101),
  (101, [zf_ild 2, zf_ic 42, zf_ic2 .ne 118, zf_ald 0, zf_ic 6, zf_ic 3, zf_ild 1, zf_inv h 12 40 3, zf_go 253], 118),
  (118, [zf_ild 2, zf_ic 91, zf_ic2 .ne 143, zf_ald 0, zf_ic 7, zf_ild 1, zf_inv h 12 34 2, zf_ist 3, zf_ald 0, zf_ic 4, zf_ic 91, zf_ild 3, zf_inv h 12 33 3, zf_go 253], 143),
  (143, [zf_ild 2, zf_ic 126, zf_ic2 .ne 178, zf_ald 0, zf_ic 9, zf_ild 1, zf_inv h 12 34 2, zf_ist 3, zf_ald 0, zf_dup, zf_getI 12 16, zf_ic 1, zf_add, zf_putI 12 16, zf_ald 0, zf_ic 5, zf_ic 123, zf_ild 3, zf_inv h 12 33 3, zf_go 253], 178),
  (178, [zf_ild 2, zf_ic 58, zf_ic2 .ne 192, zf_ald 0, zf_ild 1, zf_inv h 12 42 1, zf_go 253], 192),
  (192, [zf_ild 2, zf_inst h 12 26 1, zf_if .eq 245, zf_ald 0, zf_ic 18, zf_ild 1, zf_inv h 12 34 2, zf_ist 3, zf_ald 0, zf_getR 12 8, zf_ic 600, zf_ald 0, zf_getI 12 15, zf_mul, zf_ild 3, zf_add, zf_ild 2, zf_ic 65, zf_sub, zf_astI, zf_ald 0, zf_dup, zf_getI 12 16, zf_ic 1, zf_add, zf_putI 12 16, zf_ald 0, zf_ic 59, zf_inv h 12 16 1, zf_go 253], 245),
  (245, [zf_ald 0, zf_ald 0, zf_getI 12 16, zf_putI 12 17], 253),
  (253, [zf_ret], 254)]
theorem zT12_46 (h : Nat) : zTab h 12 46 4 (zt12_46 h) := zTab.mk (ret := none) (bl := xk12_46) (by decide +kernel) (by decide +kernel) rfl rfl
def zt12_47 (h : Nat) : ZB := [(0, [zf_ild 0, zf_lk 92 [(37, 68), (42, 60), (43, 72), (45, 76), (47, 64), (60, 80)]], 60),
  (60, [zf_lld 1, zf_lld 3, zf_lmul, zf_retl], 64),
  (64, [zf_lld 1, zf_lld 3, zf_ldiv, zf_retl], 68),
  (68, [zf_lld 1, zf_lld 3, zf_lrem, zf_retl], 72),
  (72, [zf_lld 1, zf_lld 3, zf_ladd, zf_retl], 76),
  (76, [zf_lld 1, zf_lld 3, zf_lsub, zf_retl], 80),
  (80, [zf_lld 1, zf_lld 3, zf_lcmp, zf_if .ge 90, zf_lc 1, zf_go 91], 90),
  (90, [zf_lc 0], 91),
  (91, [zf_retl], 92),
  (92, [zf_lld 1, zf_lld 3, zf_lcmp, zf_if .ne 102, zf_lc 1, zf_go 103], 102),
  (102, [zf_lc 0], 103),
  (103, [zf_retl], 104)]
theorem zT12_47 (h : Nat) : zTab h 12 47 5 (zt12_47 h) := zTab.mk (ret := (some .long)) (bl := xk12_47) (by decide +kernel) (by decide +kernel) rfl rfl
def zt12_48 (h : Nat) : ZB := [(0, [zf_ald 0, zf_lld 1, zf_lc 1, zf_lcmp, zf_if .lt 19, zf_lld 1, zf_lc 300, zf_lcmp, zf_if .gt 19, zf_ic 0, zf_go 20], 19),
  (19, [zf_ic 1], 20),
  (20, [zf_putI 12 0, zf_ald 0, zf_getI 12 0, zf_if .eq 32, zf_ic 0, zf_reti], 32),
  (32, [zf_ald 0, zf_inv h 12 18 0, zf_ald 0, zf_lld 1, zf_putL 12 34, zf_ald 0, zf_ic 0, zf_putZ 12 49, zf_ald 0, zf_ic 0, zf_putI 12 50, zf_ald 0, zf_ic 0, zf_putI 12 52, zf_ald 0, zf_ic 0, zf_putI 12 53, zf_ald 0, zf_ic 0, zf_putI 12 55], 66),
  (66, [zf_ald 0, zf_getI 12 49, zf_if .ne 80, zf_ald 0, zf_inv h 12 55 0, zf_go 66], 80),
  (80, [zf_ald 0, zf_getI 12 50, zf_reti], 85)]
theorem zT12_48 (h : Nat) : zTab h 12 48 3 (zt12_48 h) := zTab.mk (ret := (some .int)) (bl := xk12_48) (by decide +kernel) (by decide +kernel) rfl rfl
def zt12_49 (h : Nat) : ZB := [(0, [zf_ild 0, zf_lk 77 [(33, 60), (38, 68), (43, 65), (60, 74), (94, 62), (124, 71)]], 60),
  (60, [zf_ic 4, zf_reti], 62),
  (62, [zf_ic 12, zf_reti], 65),
  (65, [zf_ic 13, zf_reti], 68),
  (68, [zf_ic 14, zf_reti], 71),
  (71, [zf_ic 15, zf_reti], 74),
  (74, [zf_ic 16, zf_reti], 77),
  (77, [zf_ic 0, zf_reti], 79)]
theorem zT12_49 (h : Nat) : zTab h 12 49 1 (zt12_49 h) := zTab.mk (ret := (some .int)) (bl := xk12_49) (by decide +kernel) (by decide +kernel) rfl rfl
def zt12_50 (h : Nat) : ZB := [(0, [zf_ald 0, zf_getL 12 35, zf_ald 0, zf_getL 12 34, zf_lcmp, zf_if .ne 24, zf_ald 0, zf_ic 2, zf_putI 12 50, zf_ald 0, zf_ic 1, zf_putZ 12 49, zf_ic 0, zf_retz], 24),
  (24, [zf_ald 0, zf_dup, zf_getL 12 35, zf_lc 1, zf_ladd, zf_putL 12 35, zf_ald 0, zf_ild 1, zf_putI 12 51, zf_ic 1, zf_retz], 41)]
theorem zT12_50 (h : Nat) : zTab h 12 50 2 (zt12_50 h) := zTab.mk (ret := (some .boolean)) (bl := xk12_50) (by decide +kernel) (by decide +kernel) rfl rfl
def zt12_51 (h : Nat) : ZB := [(0, [zf_ild 1, zf_ic 1, zf_ic2 .ne 50, zf_ald 0, zf_ald 0, zf_getR 12 10, zf_ild 2, zf_aldI 100, zf_inv h 12 4 1, zf_if .eq 36, zf_ald 0, zf_getR 12 33, zf_ald 0, zf_getR 12 8, zf_ild 2, zf_aldI 100, zf_ald 0, zf_getL 12 65, zf_astL, zf_go 49], 36),
  (36, [zf_ald 0, zf_ald 0, zf_getI 12 66, zf_ald 0, zf_getI 12 51, zf_ic 0, zf_inv h 12 38 3], 49),
  (49, [zf_ret], 50),
  (50, [zf_ald 0, zf_ald 0, zf_getR 12 9, zf_ild 2, zf_aldI 100, zf_inv h 12 4 1, zf_ist 3, zf_ald 0, zf_getL 12 65, zf_lst 4, zf_ild 1, zf_ic 2, zf_ic2 .ne 81, zf_ald 0, zf_lld 4, zf_inv h 12 28 1, zf_go 104], 81),
  (81, [zf_lld 4, zf_lc 0, zf_lcmp, zf_if .lt 103, zf_lld 4, zf_ald 0, zf_getI 12 30, zf_i2l, zf_lcmp, zf_if .ge 103, zf_ic 1, zf_go 104], 103),
  (103, [zf_ic 0], 104),
  (104, [zf_ist 6, zf_ild 3, zf_if .ne 126, zf_ald 0, zf_ald 0, zf_getI 12 66, zf_ald 0, zf_getI 12 51, zf_ic 0, zf_inv h 12 38 3, zf_go 215], 126),
  (126, [zf_ild 6, zf_if .ne 144, zf_ald 0, zf_ic 2, zf_ald 0, zf_getI 12 51, zf_ic 0, zf_inv h 12 38 3, zf_go 215], 144),
  (144, [zf_ald 0, zf_ald 0, zf_getR 12 10, zf_ild 2, zf_aldI 100, zf_inv h 12 4 1, zf_if .ne 173, zf_ald 0, zf_ald 0, zf_getI 12 66, zf_ald 0, zf_getI 12 51, zf_ic 0, zf_inv h 12 38 3, zf_go 215], 173),
  (173, [zf_ild 1, zf_ic 2, zf_ic2 .ne 203, zf_ald 0, zf_getR 12 29, zf_ic 6, zf_lld 4, zf_l2i, zf_mul, zf_ald 0, zf_getR 12 8, zf_ild 2, zf_aldI 100, zf_add, zf_ald 0, zf_getL 12 65, zf_astL, zf_go 215], 203),
  (203, [zf_ald 0, zf_getR 12 31, zf_lld 4, zf_l2i, zf_ald 0, zf_getL 12 65, zf_astL], 215),
  (215, [zf_ret], 216)]
theorem zT12_51 (h : Nat) : zTab h 12 51 7 (zt12_51 h) := zTab.mk (ret := none) (bl := xk12_51) (by decide +kernel) (by decide +kernel) rfl rfl
def zt12_52 (h : Nat) : ZB := [(0, [zf_ild 0, zf_ic 42, zf_ic2 .eq 18, zf_ild 0, zf_ic 47, zf_ic2 .eq 18, zf_ild 0, zf_ic 37, zf_ic2 .ne 20], 18),
  (18, [zf_ic 3, zf_reti], 20),
  (20, [zf_ild 0, zf_ic 43, zf_ic2 .eq 32, zf_ild 0, zf_ic 45, zf_ic2 .ne 34], 32),
  (32, [zf_ic 2, zf_reti], 34),
  (34, [zf_ild 0, zf_ic 60, zf_ic2 .eq 46, zf_ild 0, zf_ic 61, zf_ic2 .ne 50], 46),
  (46, [zf_ic 1, zf_go 51], 50),
  (50, [zf_ic 0], 51),
  (51, [zf_reti], 52)]
theorem zT12_52 (h : Nat) : zTab h 12 52 1 (zt12_52 h) := zTab.mk (ret := (some .int)) (bl := xk12_52) (by decide +kernel) (by decide +kernel) rfl rfl
def zt12_53 (h : Nat) : ZB := [(0, [zf_ald 0, zf_getI 12 0, zf_reti], 5)]
theorem zT12_53 (h : Nat) : zTab h 12 53 1 (zt12_53 h) := zTab.mk (ret := (some .int)) (bl := xk12_53) (by decide +kernel) (by decide +kernel) rfl rfl
def zt12_54 (h : Nat) : ZB := [(0, [zf_ald 0, zf_ic 0, zf_putI 12 0, zf_ild 1, zf_ic 10, zf_ic2 .eq 23, zf_ild 1, zf_ic 32, zf_ic2 .lt 33, zf_ild 1, zf_ic 126, zf_ic2 .gt 33], 23),
  (23, [zf_ald 0, zf_getI 12 1, zf_ic 400, zf_ic2 .ne 35], 33),
  (33, [zf_ic 0, zf_retz], 35),
  (35, [zf_ald 0, zf_getR 12 2, zf_ald 0, zf_getI 12 1, zf_ild 1, zf_astI, zf_ald 0, zf_dup, zf_getI 12 1, zf_ic 1, zf_add, zf_putI 12 1, zf_ic 1, zf_retz], 57)]
theorem zT12_54 (h : Nat) : zTab h 12 54 2 (zt12_54 h) := zTab.mk (ret := (some .boolean)) (bl := xk12_54) (by decide +kernel) (by decide +kernel) rfl rfl
def zt12_55 (h : Nat) : ZB := [(0, [zf_ic 600, zf_ald 0, zf_getI 12 3, zf_mul, zf_ald 0, zf_getI 12 52, zf_add, zf_ist 1, zf_ald 0, zf_getR 12 6, zf_ild 1, zf_aldI 100, zf_ist 2, zf_ald 0, zf_dup, zf_getI 12 52, zf_ic 1, zf_add, zf_putI 12 52, zf_ild 2, zf_sw 168 8 20 [141, 168, 152, 163, 168, 168, 168, 168, 168, 106, 168, 117, 100]], 100),
  (100, [zf_ald 0, zf_ic 1, zf_putZ 12 49, zf_ret], 106),
  (106, [zf_ald 0, zf_ald 0, zf_getR 12 11, zf_ild 1, zf_aldI 100, zf_putI 12 52, zf_ret], 117),
  (117, [zf_ald 0, zf_dup, zf_getI 12 53, zf_ic 1, zf_sub, zf_putI 12 53, zf_ald 0, zf_ald 0, zf_getR 12 54, zf_ald 0, zf_getI 12 53, zf_aldI 100, zf_putI 12 52, zf_ret], 141),
  (141, [zf_ald 0, zf_ald 0, zf_getR 12 7, zf_ild 1, zf_aldI 100, zf_inv h 12 14 1, zf_ret], 152),
  (152, [zf_ald 0, zf_ald 0, zf_getR 12 7, zf_ild 1, zf_aldI 100, zf_inv h 12 6 1, zf_ret], 163),
  (163, [zf_ald 0, zf_inv h 12 9 0, zf_ret], 168),
  (168, [zf_ald 0, zf_ald 0, zf_getR 12 7, zf_ild 1, zf_aldI 100, zf_inv h 12 50 1, zf_if .ne 182, zf_ret], 182),
  (182, [zf_ild 2, zf_sw 320 1 18 [268, 268, 268, 320, 320, 320, 275, 320, 296, 320, 320, 320, 320, 320, 320, 320, 320, 309]], 268),
  (268, [zf_ald 0, zf_ild 2, zf_ild 1, zf_inv h 12 51 2, zf_ret], 275),
  (275, [zf_ald 0, zf_ic 7, zf_ald 0, zf_getI 12 45, zf_inv h 12 19 2, zf_ald 0, zf_dup, zf_getI 12 45, zf_ic 1, zf_add, zf_putI 12 45, zf_ret], 296),
  (296, [zf_ald 0, zf_ic 9, zf_ald 0, zf_getR 12 11, zf_ild 1, zf_aldI 100, zf_inv h 12 19 2, zf_ret], 309),
  (309, [zf_ald 0, zf_ald 0, zf_getR 12 8, zf_ild 1, zf_aldI 100, zf_inv h 12 7 1, zf_ret], 320),
  (320, [zf_ald 0, zf_ild 2, zf_ild 1, zf_inv h 12 0 2, zf_ret], 327)]
theorem zT12_55 (h : Nat) : zTab h 12 55 3 (zt12_55 h) := zTab.mk (ret := none) (bl := xk12_55) (by decide +kernel) (by decide +kernel) rfl rfl
def zt13_0 (h : Nat) : ZB := [(0, [zf_ald 0, zf_getR 13 6, zf_ild 1, zf_aldI 100, zf_ist 2, zf_ild 2, zf_ic 1, zf_ic2 .ne 72, zf_ald 0, zf_getR 13 12, zf_ald 0, zf_getI 13 11, zf_ild 1, zf_ic 2, zf_add, zf_astI, zf_ald 0, zf_getR 13 13, zf_ald 0, zf_getI 13 11, zf_ald 0, zf_getR 13 6, zf_ild 1, zf_ic 1, zf_add, zf_aldI 100, zf_astI, zf_ald 0, zf_getR 13 14, zf_ald 0, zf_getI 13 11, zf_ic 1, zf_astB, zf_ald 0, zf_ald 0, zf_getI 13 11, zf_inv h 13 1 1, zf_ald 0, zf_dup, zf_getI 13 11, zf_ic 1, zf_add, zf_putI 13 11, zf_go 170], 72),
  (72, [zf_ild 2, zf_ic 2, zf_ic2 .ne 92, zf_ald 0, zf_ald 0, zf_getR 13 6, zf_ild 1, zf_ic 1, zf_add, zf_aldI 100, zf_inv h 13 1 1, zf_go 170], 92),
  (92, [zf_ild 2, zf_ic 3, zf_ic2 .ne 130, zf_ald 0, zf_dup, zf_getI 13 15, zf_ic 1, zf_add, zf_putI 13 15, zf_ald 0, zf_getR 13 16, zf_ald 0, zf_getI 13 15, zf_ic 0, zf_astI, zf_ald 0, zf_getR 13 18, zf_ald 0, zf_getI 13 15, zf_ic 0, zf_astB, zf_go 170], 130),
  (130, [zf_ild 2, zf_ic 4, zf_ic2 .ne 166, zf_ald 0, zf_getR 13 18, zf_ald 0, zf_getR 13 6, zf_ild 1, zf_ic 1, zf_add, zf_aldI 100, zf_ic 1, zf_astB, zf_ald 0, zf_getR 13 16, zf_ald 0, zf_getR 13 6, zf_ild 1, zf_ic 1, zf_add, zf_aldI 100, zf_ic 0, zf_astI, zf_go 170], 166),
  (166, [zf_ald 0, zf_inv h 13 14 0], 170),
  (170, [zf_ret], 171)]
theorem zT13_0 (h : Nat) : zTab h 13 0 3 (zt13_0 h) := zTab.mk (ret := none) (bl := xk13_0) (by decide +kernel) (by decide +kernel) rfl rfl
def zt13_1 (h : Nat) : ZB := [(0, [zf_ald 0, zf_getR 13 17, zf_ic 8, zf_ald 0, zf_getI 13 15, zf_mul, zf_ald 0, zf_getR 13 16, zf_ald 0, zf_getI 13 15, zf_aldI 100, zf_add, zf_ild 1, zf_astI, zf_ald 0, zf_getR 13 16, zf_ald 0, zf_getI 13 15, zf_dup2, zf_aldI 100, zf_ic 1, zf_add, zf_astI, zf_ret], 37)]
theorem zT13_1 (h : Nat) : zTab h 13 1 2 (zt13_1 h) := zTab.mk (ret := none) (bl := xk13_1) (by decide +kernel) (by decide +kernel) rfl rfl
def zt13_2 (h : Nat) : ZB := [(0, [zf_ald 0, zf_ic 1, zf_inv h 13 8 1, zf_if .ne 10, zf_ic 0, zf_reti], 10),
  (10, [zf_ic 0, zf_ist 1], 12),
  (12, [zf_ild 1, zf_ald 0, zf_getI 13 11, zf_ic2 .ge 34, zf_ald 0, zf_ild 1, zf_inv h 13 6 1, zf_if .ne 34, zf_inc 1 1, zf_go 12], 34),
  (34, [zf_ild 1, zf_ald 0, zf_getI 13 11, zf_ic2 .ge 46, zf_ic 1, zf_go 47], 46),
  (46, [zf_ic 0], 47),
  (47, [zf_ist 2, zf_ild 2, zf_if .eq 56, zf_ic 2, zf_go 62], 56),
  (56, [zf_ic 2, zf_ald 0, zf_getI 13 3, zf_add], 62),
  (62, [zf_ist 3, zf_ald 0, zf_getR 13 16, zf_ald 0, zf_getI 13 15, zf_aldI 100, zf_ic 8, zf_ic2 .eq 102, zf_ild 2, zf_if .ne 90, zf_ald 0, zf_getI 13 11, zf_ic 24, zf_ic2 .eq 102], 90),
  (90, [zf_ald 0, zf_getI 13 5, zf_ild 3, zf_add, zf_ic 400, zf_ic2 .le 104], 102),
  (102, [zf_ic (-1), zf_reti], 104),
  (104, [zf_ald 0, zf_ild 2, zf_if .eq 113, zf_ic 2, zf_go 114], 113),
  (113, [zf_ic 1], 114),
  (114, [zf_inv h 13 18 1, zf_ald 0, zf_ild 2, zf_if .eq 126, zf_ild 1, zf_go 130], 126),
  (126, [zf_ald 0, zf_getI 13 3], 130),
  (130, [zf_inv h 13 18 1, zf_ic 0, zf_ist 4], 136),
  (136, [zf_ild 4, zf_ald 0, zf_getI 13 3, zf_ic2 .ge 166, zf_ild 2, zf_if .ne 166, zf_ald 0, zf_ald 0, zf_getR 13 4, zf_ild 4, zf_aldI 100, zf_inv h 13 18 1, zf_inc 4 1, zf_go 136], 166),
  (166, [zf_ald 0, zf_ic 0, zf_putI 13 3, zf_ild 1, zf_reti], 173)]
theorem zT13_2 (h : Nat) : zTab h 13 2 5 (zt13_2 h) := zTab.mk (ret := (some .int)) (bl := xk13_2) (by decide +kernel) (by decide +kernel) rfl rfl
def zt13_3 (h : Nat) : ZB := [(0, [zf_ald 0, zf_ic 2, zf_inv h 13 8 1, zf_if .ne 10, zf_ic 0, zf_retz], 10),
  (10, [zf_ald 0, zf_ild 1, zf_if .lt 27, zf_ild 1, zf_ald 0, zf_getI 13 5, zf_ic2 .gt 27, zf_ic 0, zf_go 28], 27),
  (27, [zf_ic 1], 28),
  (28, [zf_putI 13 0, zf_ald 0, zf_getI 13 0, zf_if .eq 40, zf_ic 0, zf_retz], 40),
  (40, [zf_ald 0, zf_getI 13 5, zf_ild 1, zf_ic2 .le 52, zf_ic 1, zf_go 53], 52),
  (52, [zf_ic 0], 53),
  (53, [zf_ist 2, zf_ald 0, zf_ild 1, zf_putI 13 5, zf_ald 0, zf_ic 0, zf_putI 13 3, zf_ald 0, zf_ic 0, zf_putI 13 7, zf_ic 0, zf_ist 3], 71),
  (71, [zf_ild 3, zf_ic 24, zf_ic2 .ge 90, zf_ald 0, zf_getR 13 10, zf_ild 3, zf_ic 0, zf_astB, zf_inc 3 1, zf_go 71], 90),
  (90, [zf_ald 0, zf_ic 1, zf_putZ 13 2, zf_ild 2, zf_retz], 97)]
theorem zT13_3 (h : Nat) : zTab h 13 3 4 (zt13_3 h) := zTab.mk (ret := (some .boolean)) (bl := xk13_3) (by decide +kernel) (by decide +kernel) rfl rfl
def zt13_4 (h : Nat) : ZB := [(0, [zf_ald 0, zf_ic 2, zf_inv h 13 8 1, zf_if .ne 10, zf_ic 0, zf_retz], 10),
  (10, [zf_ald 0, zf_ald 0, zf_ild 1, zf_inv h 13 9 1, zf_if .eq 23, zf_ic 0, zf_go 24], 23),
  (23, [zf_ic 1], 24),
  (24, [zf_putI 13 0, zf_ald 0, zf_getI 13 0, zf_if .ne 55, zf_ald 0, zf_getR 13 18, zf_ild 1, zf_aldB, zf_if .ne 55, zf_ald 0, zf_getI 13 5, zf_ic 2, zf_add, zf_ic 400, zf_ic2 .le 57], 55),
  (55, [zf_ic 0, zf_retz], 57),
  (57, [zf_ald 0, zf_ic 4, zf_inv h 13 18 1, zf_ald 0, zf_ild 1, zf_inv h 13 18 1, zf_ic 1, zf_retz], 69)]
theorem zT13_4 (h : Nat) : zTab h 13 4 2 (zt13_4 h) := zTab.mk (ret := (some .boolean)) (bl := xk13_4) (by decide +kernel) (by decide +kernel) rfl rfl
def zt13_6 (h : Nat) : ZB := [(0, [zf_ald 0, zf_getR 13 14, zf_ild 1, zf_aldB, zf_if .eq 26, zf_ald 0, zf_getR 13 13, zf_ild 1, zf_aldI 100, zf_ald 0, zf_getI 13 3, zf_ic2 .ne 26, zf_ic 1, zf_go 27], 26),
  (26, [zf_ic 0], 27),
  (27, [zf_ist 2, zf_ic 0, zf_ist 3], 30),
  (30, [zf_ild 3, zf_ald 0, zf_getI 13 3, zf_ic2 .ge 76, zf_ild 2, zf_if .eq 76, zf_ald 0, zf_getR 13 6, zf_ald 0, zf_getR 13 12, zf_ild 1, zf_aldI 100, zf_ild 3, zf_add, zf_aldI 100, zf_ald 0, zf_getR 13 4, zf_ild 3, zf_aldI 100, zf_ic2 .ne 68, zf_ic 1, zf_go 69], 68),
  (68, [zf_ic 0], 69),
  (69, [zf_ist 2, zf_inc 3 1, zf_go 30], 76),
  (76, [zf_ild 2, zf_retz], 78)]
theorem zT13_6 (h : Nat) : zTab h 13 6 4 (zt13_6 h) := zTab.mk (ret := (some .boolean)) (bl := xk13_6) (by decide +kernel) (by decide +kernel) rfl rfl
def zt13_7 (h : Nat) : ZB := [(0, [zf_ic 0, zf_ist 2, zf_ic 0, zf_ist 3], 4),
  (4, [zf_ild 3, zf_ald 0, zf_getI 13 15, zf_ic2 .gt 64, zf_ic 0, zf_ist 4], 15),
  (15, [zf_ild 4, zf_ald 0, zf_getR 13 16, zf_ild 3, zf_aldI 100, zf_ic2 .ge 58, zf_ild 2, zf_if .ne 46, zf_ald 0, zf_getR 13 17, zf_ic 8, zf_ild 3, zf_mul, zf_ild 4, zf_add, zf_aldI 100, zf_ild 1, zf_ic2 .ne 50], 46),
  (46, [zf_ic 1, zf_go 51], 50),
  (50, [zf_ic 0], 51),
  (51, [zf_ist 2, zf_inc 4 1, zf_go 15], 58),
  (58, [zf_inc 3 1, zf_go 4], 64),
  (64, [zf_ild 2, zf_retz], 66)]
theorem zT13_7 (h : Nat) : zTab h 13 7 5 (zt13_7 h) := zTab.mk (ret := (some .boolean)) (bl := xk13_7) (by decide +kernel) (by decide +kernel) rfl rfl
def zt13_8 (h : Nat) : ZB := [(0, [zf_ald 0, zf_ald 0, zf_getI 13 2, zf_if .eq 12, zf_ild 1, zf_go 13], 12),
  (12, [zf_ic 0], 13),
  (13, [zf_putI 13 0, zf_ald 0, zf_getI 13 2, zf_if .ne 27, zf_ald 0, zf_inv h 13 17 0], 27),
  (27, [zf_ald 0, zf_getI 13 2, zf_if .ne 38, zf_ic 1, zf_go 39], 38),
  (38, [zf_ic 0], 39),
  (39, [zf_retz], 40)]
theorem zT13_8 (h : Nat) : zTab h 13 8 2 (zt13_8 h) := zTab.mk (ret := (some .boolean)) (bl := xk13_8) (by decide +kernel) (by decide +kernel) rfl rfl
def zt13_9 (h : Nat) : ZB := [(0, [zf_ild 1, zf_if .lt 16, zf_ild 1, zf_ald 0, zf_getI 13 15, zf_ic2 .ge 16, zf_ic 1, zf_go 17], 16),
  (16, [zf_ic 0], 17),
  (17, [zf_retz], 18)]
theorem zT13_9 (h : Nat) : zTab h 13 9 2 (zt13_9 h) := zTab.mk (ret := (some .boolean)) (bl := xk13_9) (by decide +kernel) (by decide +kernel) rfl rfl
def zt13_10 (h : Nat) : ZB := [(0, [zf_ald 0, zf_ic 2, zf_inv h 13 8 1, zf_if .ne 10, zf_ic 0, zf_reti], 10),
  (10, [zf_ald 0, zf_ald 0, zf_ild 1, zf_inv h 13 9 1, zf_if .eq 27, zf_ild 2, zf_if .lt 27, zf_ic 0, zf_go 28], 27),
  (27, [zf_ic 1], 28),
  (28, [zf_putI 13 0, zf_ald 0, zf_getI 13 0, zf_if .eq 40, zf_ic 0, zf_reti], 40),
  (40, [zf_ild 2, zf_ist 3, zf_ic 0, zf_ist 4], 45),
  (45, [zf_ild 4, zf_ald 0, zf_getR 13 16, zf_ild 1, zf_aldI 100, zf_ic2 .ge 112, zf_ald 0, zf_getR 13 17, zf_ic 8, zf_ild 1, zf_mul, zf_ild 4, zf_add, zf_aldI 100, zf_ist 5, zf_ild 3, zf_ald 0, zf_getR 13 13, zf_ild 5, zf_aldI 100, zf_ic2 .ge 96, zf_ald 0, zf_getR 13 6, zf_ald 0, zf_getR 13 12, zf_ild 5, zf_aldI 100, zf_ild 3, zf_add, zf_aldI 100, zf_reti], 96),
  (96, [zf_ild 3, zf_ald 0, zf_getR 13 13, zf_ild 5, zf_aldI 100, zf_sub, zf_ist 3, zf_inc 4 1, zf_go 45], 112),
  (112, [zf_ic (-1), zf_reti], 114)]
theorem zT13_10 (h : Nat) : zTab h 13 10 6 (zt13_10 h) := zTab.mk (ret := (some .int)) (bl := xk13_10) (by decide +kernel) (by decide +kernel) rfl rfl
def zt13_11 (h : Nat) : ZB := [(0, [zf_ald 0, zf_ald 0, zf_getI 13 2, zf_if .eq 12, zf_ic 0, zf_go 13], 12),
  (12, [zf_ic 1], 13),
  (13, [zf_putI 13 0, zf_ald 0, zf_getI 13 2, zf_if .ne 25, zf_ic 0, zf_reti], 25),
  (25, [zf_ald 0, zf_ic 0, zf_putZ 13 2, zf_ald 0, zf_inv h 13 17 0, zf_ald 0, zf_ald 0, zf_getI 13 19, zf_putI 13 5, zf_ald 0, zf_getI 13 15, zf_reti], 47)]
theorem zT13_11 (h : Nat) : zTab h 13 11 1 (zt13_11 h) := zTab.mk (ret := (some .int)) (bl := xk13_11) (by decide +kernel) (by decide +kernel) rfl rfl
def zt13_12 (h : Nat) : ZB := [(0, [zf_ald 0, zf_getR 13 6, zf_ild 1, zf_aldI 100, zf_ist 2, zf_ild 2, zf_ic 1, zf_ic2 .ne 39, zf_ild 1, zf_ic 1, zf_add, zf_ald 0, zf_getI 13 5, zf_ic2 .ge 35, zf_ic 2, zf_ald 0, zf_getR 13 6, zf_ild 1, zf_ic 1, zf_add, zf_aldI 100, zf_add, zf_go 54], 35),
  (35, [zf_ic 2, zf_go 54], 39),
  (39, [zf_ild 2, zf_ic 2, zf_ic2 .eq 49, zf_ild 2, zf_ic 4, zf_ic2 .ne 53], 49),
  (49, [zf_ic 2, zf_go 54], 53),
  (53, [zf_ic 1], 54),
  (54, [zf_reti], 55)]
theorem zT13_12 (h : Nat) : zTab h 13 12 3 (zt13_12 h) := zTab.mk (ret := (some .int)) (bl := xk13_12) (by decide +kernel) (by decide +kernel) rfl rfl
def zt13_13 (h : Nat) : ZB := [(0, [zf_ald 0, zf_ic 1, zf_inv h 13 8 1, zf_if .eq 18, zf_ald 0, zf_getI 13 5, zf_ic 400, zf_ic2 .ne 20], 18),
  (18, [zf_ic 0, zf_reti], 20),
  (20, [zf_ald 0, zf_inv h 13 14 0, zf_ald 0, zf_getI 13 20, zf_ist 1, zf_ald 0, zf_ic 5, zf_inv h 13 18 1, zf_ild 1, zf_reti], 36)]
theorem zT13_13 (h : Nat) : zTab h 13 13 2 (zt13_13 h) := zTab.mk (ret := (some .int)) (bl := xk13_13) (by decide +kernel) (by decide +kernel) rfl rfl
def zt13_14 (h : Nat) : ZB := [(0, [zf_ald 0, zf_ic 0, zf_putI 13 20, zf_ic 0, zf_ist 1], 7),
  (7, [zf_ild 1, zf_ald 0, zf_getI 13 11, zf_ic2 .ge 58, zf_ald 0, zf_getR 13 14, zf_ild 1, zf_aldB, zf_if .eq 52, zf_ald 0, zf_ild 1, zf_inv h 13 7 1, zf_if .eq 35, zf_go 52], 35),
  (35, [zf_ald 0, zf_getR 13 14, zf_ild 1, zf_ic 0, zf_astB, zf_ald 0, zf_dup, zf_getI 13 20, zf_ic 1, zf_add, zf_putI 13 20], 52),
  (52, [zf_inc 1 1, zf_go 7], 58),
  (58, [zf_ret], 59)]
theorem zT13_14 (h : Nat) : zTab h 13 14 2 (zt13_14 h) := zTab.mk (ret := none) (bl := xk13_14) (by decide +kernel) (by decide +kernel) rfl rfl
def zt13_15 (h : Nat) : ZB := [(0, [zf_ald 0, zf_getI 13 0, zf_reti], 5)]
theorem zT13_15 (h : Nat) : zTab h 13 15 1 (zt13_15 h) := zTab.mk (ret := (some .int)) (bl := xk13_15) (by decide +kernel) (by decide +kernel) rfl rfl
def zt13_16 (h : Nat) : ZB := [(0, [zf_ald 0, zf_ic 1, zf_inv h 13 8 1, zf_if .ne 10, zf_ic 0, zf_reti], 10),
  (10, [zf_ald 0, zf_getI 13 15, zf_ic 12, zf_ic2 .eq 29, zf_ald 0, zf_getI 13 5, zf_ic 400, zf_ic2 .ne 31], 29),
  (29, [zf_ic (-1), zf_reti], 31),
  (31, [zf_ald 0, zf_ic 3, zf_inv h 13 18 1, zf_ald 0, zf_getI 13 15, zf_reti], 41)]
theorem zT13_16 (h : Nat) : zTab h 13 16 1 (zt13_16 h) := zTab.mk (ret := (some .int)) (bl := xk13_16) (by decide +kernel) (by decide +kernel) rfl rfl
def zt13_17 (h : Nat) : ZB := [(0, [zf_ald 0, zf_ic 0, zf_putI 13 11, zf_ald 0, zf_ic 0, zf_putI 13 15, zf_ald 0, zf_getR 13 16, zf_ic 0, zf_ic 0, zf_astI, zf_ald 0, zf_getR 13 18, zf_ic 0, zf_ic 0, zf_astB, zf_ald 0, zf_ic 0, zf_putI 13 19], 29),
  (29, [zf_ald 0, zf_getI 13 19, zf_ald 0, zf_getI 13 5, zf_ic2 .ge 88, zf_ald 0, zf_getI 13 19, zf_ald 0, zf_ald 0, zf_getI 13 19, zf_inv h 13 12 1, zf_add, zf_ald 0, zf_getI 13 5, zf_ic2 .gt 88, zf_ald 0, zf_ald 0, zf_getI 13 19, zf_inv h 13 0 1, zf_ald 0, zf_dup, zf_getI 13 19, zf_ald 0, zf_ald 0, zf_getI 13 19, zf_inv h 13 12 1, zf_add, zf_putI 13 19, zf_go 29], 88),
  (88, [zf_ret], 89)]
theorem zT13_17 (h : Nat) : zTab h 13 17 1 (zt13_17 h) := zTab.mk (ret := none) (bl := xk13_17) (by decide +kernel) (by decide +kernel) rfl rfl
def zt13_18 (h : Nat) : ZB := [(0, [zf_ald 0, zf_getR 13 6, zf_ald 0, zf_getI 13 5, zf_ild 1, zf_astI, zf_ald 0, zf_dup, zf_getI 13 5, zf_ic 1, zf_add, zf_putI 13 5, zf_ret], 21)]
theorem zT13_18 (h : Nat) : zTab h 13 18 2 (zt13_18 h) := zTab.mk (ret := none) (bl := xk13_18) (by decide +kernel) (by decide +kernel) rfl rfl
def zt14_0 (h : Nat) : ZB := [(0, [zf_ild 1, zf_ic 1, zf_ic2 .ne 13, zf_ald 0, zf_ild 2, zf_inv h 14 14 1, zf_go 50], 13),
  (13, [zf_ild 1, zf_ic 4, zf_ic2 .ne 36, zf_ald 0, zf_getR 14 5, zf_ild 2, zf_aldI 100, zf_ic 2, zf_ic2 .ne 32, zf_ic 1, zf_go 50], 32),
  (32, [zf_ic 0, zf_go 50], 36),
  (36, [zf_ald 0, zf_getR 14 5, zf_ild 2, zf_aldI 100, zf_if .ne 49, zf_ic 1, zf_go 50], 49),
  (49, [zf_ic 0], 50),
  (50, [zf_ist 3, zf_ild 3, zf_if .eq 65, zf_ald 0, zf_ild 1, zf_ild 2, zf_ic (-1), zf_inv h 14 30 3, zf_go 66], 65),
  (65, [zf_ic (-1)], 66),
  (66, [zf_ist 4, zf_ild 4, zf_ic (-1), zf_ic2 .ne 76, zf_ic 0, zf_retz], 76),
  (76, [zf_ild 1, zf_sw 199 1 5 [112, 199, 199, 139, 160]], 112),
  (112, [zf_lc 2, zf_ald 0, zf_getR 14 10, zf_ild 2, zf_aldL, zf_lmul, zf_ald 0, zf_getR 14 15, zf_ild 4, zf_aldL, zf_lcmp, zf_if .ge 137, zf_ic 1, zf_go 138], 137),
  (137, [zf_ic 0], 138),
  (138, [zf_retz], 139),
  (139, [zf_ald 0, zf_ild 2, zf_ald 0, zf_getR 14 15, zf_ild 4, zf_aldL, zf_inv h 14 19 2, zf_if .ne 158, zf_ic 1, zf_go 159], 158),
  (158, [zf_ic 0], 159),
  (159, [zf_retz], 160),
  (160, [zf_ald 0, zf_ild 2, zf_ic 8, zf_ild 2, zf_mul, zf_inv h 14 16 2, zf_if .eq 193, zf_ald 0, zf_ild 2, zf_ic 8, zf_ild 2, zf_mul, zf_ald 0, zf_getR 14 7, zf_ild 2, zf_aldI 100, zf_add, zf_ic 1, zf_sub, zf_inv h 14 16 2, zf_if .ne 197], 193),
  (193, [zf_ic 1, zf_go 198], 197),
  (197, [zf_ic 0], 198),
  (198, [zf_retz], 199),
  (199, [zf_ald 0, zf_ild 2, zf_inv h 14 10 1, zf_retz], 205)]
theorem zT14_0 (h : Nat) : zTab h 14 0 5 (zt14_0 h) := zTab.mk (ret := (some .boolean)) (bl := xk14_0) (by decide +kernel) (by decide +kernel) rfl rfl
def zt14_1 (h : Nat) : ZB := [(0, [zf_ald 0, zf_ald 0, zf_ild 1, zf_inv h 14 20 1, zf_if .ne 13, zf_ic 1, zf_go 47], 13),
  (13, [zf_ald 0, zf_getR 14 10, zf_ild 1, zf_aldL, zf_lc 0, zf_lcmp, zf_if .le 28, zf_ic 2, zf_go 47], 28),
  (28, [zf_lld 2, zf_lc 1, zf_lcmp, zf_if .lt 42, zf_lld 2, zf_lc 100000, zf_lcmp, zf_if .le 46], 42),
  (42, [zf_ic 3, zf_go 47], 46),
  (46, [zf_ic 0], 47),
  (47, [zf_putI 14 0, zf_ald 0, zf_getI 14 0, zf_if .ne 66, zf_ald 0, zf_getR 14 7, zf_ild 1, zf_aldI 100, zf_if .ne 68], 66),
  (66, [zf_ic 0, zf_retz], 68),
  (68, [zf_ald 0, zf_getR 14 10, zf_ild 1, zf_lld 2, zf_astL, zf_ic 1, zf_retz], 77)]
theorem zT14_1 (h : Nat) : zTab h 14 1 4 (zt14_1 h) := zTab.mk (ret := (some .boolean)) (bl := xk14_1) (by decide +kernel) (by decide +kernel) rfl rfl
def zt14_2 (h : Nat) : ZB := [(0, [zf_ald 0, zf_ald 0, zf_ild 1, zf_inv h 14 20 1, zf_if .ne 13, zf_ic 1, zf_go 28], 13),
  (13, [zf_ild 2, zf_if .lt 23, zf_ild 2, zf_ic 7, zf_ic2 .le 27], 23),
  (23, [zf_ic 2, zf_go 28], 27),
  (27, [zf_ic 0], 28),
  (28, [zf_putI 14 0, zf_ald 0, zf_getI 14 0, zf_if .ne 48, zf_ald 0, zf_getR 14 6, zf_ild 1, zf_aldI 100, zf_ild 2, zf_ic2 .ne 50], 48),
  (48, [zf_ic 0, zf_retz], 50),
  (50, [zf_ald 0, zf_getR 14 6, zf_ild 1, zf_ild 2, zf_astI, zf_ic 1, zf_retz], 59)]
theorem zT14_2 (h : Nat) : zTab h 14 2 3 (zt14_2 h) := zTab.mk (ret := (some .boolean)) (bl := xk14_2) (by decide +kernel) (by decide +kernel) rfl rfl
def zt14_3 (h : Nat) : ZB := [(0, [zf_lld 0, zf_lld 2, zf_inst h 14 34 2, zf_lst 8, zf_lld 4, zf_lld 6, zf_inst h 14 34 2, zf_lst 10, zf_lld 8, zf_lld 10, zf_lcmp, zf_if .eq 38, zf_lld 8, zf_lld 10, zf_lcmp, zf_if .ge 36, zf_ic (-1), zf_go 37], 36),
  (36, [zf_ic 1], 37),
  (37, [zf_reti], 38),
  (38, [zf_lld 0, zf_lld 2, zf_inst h 14 24 2, zf_lst 8, zf_lld 4, zf_lld 6, zf_inst h 14 24 2, zf_lst 10, zf_lld 8, zf_lld 10, zf_lcmp, zf_if .ge 66, zf_ic (-1), zf_go 79], 66),
  (66, [zf_lld 8, zf_lld 10, zf_lcmp, zf_if .le 78, zf_ic 1, zf_go 79], 78),
  (78, [zf_ic 0], 79),
  (79, [zf_reti], 80)]
theorem zT14_3 (h : Nat) : zTab h 14 3 12 (zt14_3 h) := zTab.mk (ret := (some .int)) (bl := xk14_3) (by decide +kernel) (by decide +kernel) rfl rfl
def zt14_4 (h : Nat) : ZB := [(0, [zf_ald 0, zf_ald 0, zf_ild 1, zf_inv h 14 20 1, zf_if .ne 13, zf_ic 1, zf_go 42], 13),
  (13, [zf_ald 0, zf_getR 14 10, zf_ild 1, zf_aldL, zf_lc 0, zf_lcmp, zf_if .le 28, zf_ic 2, zf_go 42], 28),
  (28, [zf_lld 2, zf_lld 4, zf_inst h 14 18 2, zf_if .eq 41, zf_ic 0, zf_go 42], 41),
  (41, [zf_ic 3], 42),
  (42, [zf_putI 14 0, zf_ald 0, zf_getI 14 0, zf_if .ne 63, zf_ald 0, zf_getR 14 7, zf_ild 1, zf_aldI 100, zf_ic 8, zf_ic2 .ne 65], 63),
  (63, [zf_ic 0, zf_retz], 65),
  (65, [zf_ic 8, zf_ild 1, zf_mul, zf_ald 0, zf_getR 14 7, zf_ild 1, zf_aldI 100, zf_add, zf_ist 6, zf_ald 0, zf_getR 14 7, zf_ild 1, zf_aldI 100, zf_if .le 118, zf_ald 0, zf_getR 14 8, zf_ild 6, zf_ic 1, zf_sub, zf_aldL, zf_lld 2, zf_lcmp, zf_if .ne 118, zf_ald 0, zf_getR 14 9, zf_ild 6, zf_ic 1, zf_sub, zf_aldL, zf_lld 4, zf_lcmp, zf_if .ne 118, zf_ic 0, zf_retz], 118),
  (118, [zf_ald 0, zf_getR 14 8, zf_ild 6, zf_lld 2, zf_astL, zf_ald 0, zf_getR 14 9, zf_ild 6, zf_lld 4, zf_astL, zf_ald 0, zf_getR 14 7, zf_ild 1, zf_dup2, zf_aldI 100, zf_ic 1, zf_add, zf_astI, zf_ic 1, zf_retz], 147)]
theorem zT14_4 (h : Nat) : zTab h 14 4 7 (zt14_4 h) := zTab.mk (ret := (some .boolean)) (bl := xk14_4) (by decide +kernel) (by decide +kernel) rfl rfl
def zt14_5 (h : Nat) : ZB := [(0, [zf_ald 0, zf_getR 14 7, zf_ild 1, zf_aldI 100, zf_ic 1, zf_ic2 .ne 17, zf_ic 8, zf_ild 1, zf_mul, zf_go 25], 17),
  (17, [zf_ic 8, zf_ild 1, zf_mul, zf_ild 2, zf_add, zf_ic 1, zf_add], 25),
  (25, [zf_reti], 26)]
theorem zT14_5 (h : Nat) : zTab h 14 5 3 (zt14_5 h) := zTab.mk (ret := (some .int)) (bl := xk14_5) (by decide +kernel) (by decide +kernel) rfl rfl
def zt14_6 (h : Nat) : ZB := [(0, [zf_ald 0, zf_ic 0, zf_putI 14 17, zf_ic 0, zf_ist 1], 7),
  (7, [zf_ild 1, zf_ald 0, zf_getI 14 2, zf_ic2 .ge 171, zf_ald 0, zf_getR 14 10, zf_ild 1, zf_aldL, zf_lc 0, zf_lcmp, zf_if .ne 29, zf_go 165], 29),
  (29, [zf_ic 1, zf_ist 2], 31),
  (31, [zf_ild 2, zf_ic 7, zf_ic2 .ge 69, zf_ild 2, zf_ic 2, zf_ic2 .eq 63, zf_ild 2, zf_ic 3, zf_ic2 .eq 63, zf_ald 0, zf_ild 2, zf_ild 1, zf_inv h 14 0 2, zf_if .eq 63, zf_ald 0, zf_ild 2, zf_ild 1, zf_ic (-1), zf_inv h 14 27 3], 63),
  (63, [zf_inc 2 1, zf_go 31], 69),
  (69, [zf_ic 0, zf_ist 2], 71),
  (71, [zf_ild 2, zf_ild 1, zf_ic2 .ge 165, zf_ald 0, zf_getR 14 10, zf_ild 2, zf_aldL, zf_lc 0, zf_lcmp, zf_if .ne 90, zf_go 159], 90),
  (90, [zf_ic 0, zf_ist 3], 92),
  (92, [zf_ild 3, zf_ic 4, zf_ic2 .ge 159, zf_ild 3, zf_ic 1, zf_ic2 .eq 153, zf_ald 0, zf_ild 3, zf_ild 1, zf_ild 2, zf_inv h 14 15 3, zf_if .ne 115, zf_go 153], 115),
  (115, [zf_ald 0, zf_ild 3, zf_ild 1, zf_ild 2, zf_inv h 14 30 3, zf_ist 4, zf_ild 4, zf_ic (-1), zf_ic2 .eq 153, zf_ald 0, zf_ild 1, zf_ild 2, zf_ald 0, zf_getR 14 15, zf_ild 4, zf_aldL, zf_inv h 14 11 3, zf_if .ne 153, zf_ald 0, zf_ild 3, zf_ild 2, zf_ild 1, zf_inv h 14 27 3], 153),
  (153, [zf_inc 3 1, zf_go 92], 159),
  (159, [zf_inc 2 1, zf_go 71], 165),
  (165, [zf_inc 1 1, zf_go 7], 171),
  (171, [zf_ret], 172)]
theorem zT14_6 (h : Nat) : zTab h 14 6 5 (zt14_6 h) := zTab.mk (ret := none) (bl := xk14_6) (by decide +kernel) (by decide +kernel) rfl rfl
def zt14_7 (h : Nat) : ZB := [(0, [zf_lld 8, zf_lld 4, zf_lsub, zf_lst 14, zf_lld 10, zf_lld 6, zf_lsub, zf_lst 16, zf_lld 0, zf_lld 4, zf_lsub, zf_lld 14, zf_lmul, zf_lld 2, zf_lld 6, zf_lsub, zf_lld 16, zf_lmul, zf_ladd, zf_lst 18, zf_lld 14, zf_lld 14, zf_lmul, zf_lld 16, zf_lld 16, zf_lmul, zf_ladd, zf_lst 20, zf_lld 18, zf_lc 0, zf_lcmp, zf_if .le 109, zf_lld 18, zf_lld 20, zf_lcmp, zf_if .ge 109, zf_lld 14, zf_lld 2, zf_lld 6, zf_lsub, zf_lmul, zf_lld 16, zf_lld 0, zf_lld 4, zf_lsub, zf_lmul, zf_lsub, zf_lst 22, zf_lld 22, zf_lc 0, zf_lcmp, zf_if .ge 90, zf_lc 0, zf_lld 22, zf_lsub, zf_go 92], 90),
  (90, [zf_lld 22], 92),
  (92, [zf_lst 22, zf_lld 22, zf_lld 22, zf_lld 12, zf_lld 12, zf_lmul, zf_lld 20, zf_inst h 14 3 4, zf_reti], 109),
  (109, [zf_lld 18, zf_lc 0, zf_lcmp, zf_if .gt 123, zf_lld 0, zf_lld 4, zf_lsub, zf_go 127], 123),
  (123, [zf_lld 0, zf_lld 8, zf_lsub], 127),
  (127, [zf_lst 22, zf_lld 18, zf_lc 0, zf_lcmp, zf_if .gt 143, zf_lld 2, zf_lld 6, zf_lsub, zf_go 147], 143),
  (143, [zf_lld 2, zf_lld 10, zf_lsub], 147),
  (147, [zf_lst 24, zf_lld 22, zf_lld 22, zf_lmul, zf_lld 24, zf_lld 24, zf_lmul, zf_ladd, zf_lst 26, zf_lld 26, zf_lld 12, zf_lld 12, zf_lmul, zf_lcmp, zf_if .ge 177, zf_ic (-1), zf_go 193], 177),
  (177, [zf_lld 26, zf_lld 12, zf_lld 12, zf_lmul, zf_lcmp, zf_if .le 192, zf_ic 1, zf_go 193], 192),
  (192, [zf_ic 0], 193),
  (193, [zf_reti], 194)]
theorem zT14_7 (h : Nat) : zTab h 14 7 28 (zt14_7 h) := zTab.mk (ret := (some .int)) (bl := xk14_7) (by decide +kernel) (by decide +kernel) rfl rfl
def zt14_8 (h : Nat) : ZB := [(0, [zf_ald 0, zf_getR 14 3, zf_ild 1, zf_aldI 100, zf_ic (-1), zf_ic2 .eq 29, zf_ald 0, zf_getR 14 3, zf_ild 1, zf_aldI 100, zf_ald 0, zf_getR 14 3, zf_ild 2, zf_aldI 100, zf_ic2 .ne 29, zf_ic 1, zf_go 30], 29),
  (29, [zf_ic 0], 30),
  (30, [zf_retz], 31)]
theorem zT14_8 (h : Nat) : zTab h 14 8 3 (zt14_8 h) := zTab.mk (ret := (some .boolean)) (bl := xk14_8) (by decide +kernel) (by decide +kernel) rfl rfl
def zt14_9 (h : Nat) : ZB := [(0, [zf_ald 0, zf_ini, zf_ald 0, zf_ic 60, zf_newA 100, zf_putR 14 3, zf_ald 0, zf_ic 60, zf_newA 100, zf_putR 14 4, zf_ald 0, zf_ic 60, zf_newA 100, zf_putR 14 5, zf_ald 0, zf_ic 60, zf_newA 100, zf_putR 14 6, zf_ald 0, zf_ic 60, zf_newA 100, zf_putR 14 7, zf_ald 0, zf_ic 480, zf_newA 101, zf_putR 14 8, zf_ald 0, zf_ic 480, zf_newA 101, zf_putR 14 9, zf_ald 0, zf_ic 60, zf_newA 101, zf_putR 14 10, zf_ald 0, zf_ic 30, zf_newA 100, zf_putR 14 12, zf_ald 0, zf_ic 30, zf_newA 100, zf_putR 14 13, zf_ald 0, zf_ic 30, zf_newA 100, zf_putR 14 14, zf_ald 0, zf_ic 30, zf_newA 101, zf_putR 14 15, zf_ald 0, zf_ic 8, zf_putI 14 16, zf_ald 0, zf_ic 6300, zf_newA 100, zf_putR 14 18, zf_ald 0, zf_ic 6300, zf_newA 100, zf_putR 14 20, zf_ald 0, zf_ic 2100, zf_newA 101, zf_putR 14 21, zf_ald 0, zf_ic 2100, zf_newA 101, zf_putR 14 22, zf_ald 0, zf_ic 180, zf_newA 100, zf_putR 14 24, zf_ald 0, zf_ild 1, zf_ic 1, zf_ic2 .ge 163, zf_ic 1, zf_go 175], 163),
  (163, [zf_ild 1, zf_ic 16, zf_ic2 .le 174, zf_ic 16, zf_go 175], 174),
  (174, [zf_ild 1], 175),
  (175, [zf_putI 14 1, zf_ret], 179)]
theorem zT14_9 (h : Nat) : zTab h 14 9 2 (zt14_9 h) := zTab.mk (ret := none) (bl := xk14_9) (by decide +kernel) (by decide +kernel) rfl rfl
def zt14_10 (h : Nat) : ZB := [(0, [zf_ic 8, zf_ild 1, zf_mul, zf_ic 1, zf_add, zf_ist 2], 7),
  (7, [zf_ild 2, zf_ic 8, zf_ild 1, zf_mul, zf_ald 0, zf_getR 14 7, zf_ild 1, zf_aldI 100, zf_add, zf_ic 1, zf_sub, zf_ic2 .ge 102, zf_ald 0, zf_getR 14 8, zf_ild 2, zf_ic 1, zf_sub, zf_aldL, zf_ald 0, zf_getR 14 8, zf_ild 2, zf_aldL, zf_lsub, zf_ald 0, zf_getR 14 8, zf_ild 2, zf_ic 1, zf_add, zf_aldL, zf_ald 0, zf_getR 14 8, zf_ild 2, zf_aldL, zf_lsub, zf_lmul, zf_ald 0, zf_getR 14 9, zf_ild 2, zf_ic 1, zf_sub, zf_aldL, zf_ald 0, zf_getR 14 9, zf_ild 2, zf_aldL, zf_lsub, zf_ald 0, zf_getR 14 9, zf_ild 2, zf_ic 1, zf_add, zf_aldL, zf_ald 0, zf_getR 14 9, zf_ild 2, zf_aldL, zf_lsub, zf_lmul, zf_ladd, zf_lst 3, zf_lld 3, zf_lc 0, zf_lcmp, zf_if .le 96, zf_ic 1, zf_retz], 96),
  (96, [zf_inc 2 1, zf_go 7], 102),
  (102, [zf_ic 0, zf_retz], 104)]
theorem zT14_10 (h : Nat) : zTab h 14 10 5 (zt14_10 h) := zTab.mk (ret := (some .boolean)) (bl := xk14_10) (by decide +kernel) (by decide +kernel) rfl rfl
def zt14_11 (h : Nat) : ZB := [(0, [zf_ald 0, zf_getR 14 10, zf_ild 1, zf_aldL, zf_ald 0, zf_getR 14 10, zf_ild 2, zf_aldL, zf_ladd, zf_lld 3, zf_ladd, zf_lst 5, zf_ald 0, zf_ild 1, zf_ild 2, zf_inv h 14 23 2, zf_if .eq 28, zf_ic 0, zf_retz], 28),
  (28, [zf_ic 8, zf_ild 1, zf_mul, zf_ist 7], 34),
  (34, [zf_ild 7, zf_ic 8, zf_ild 1, zf_mul, zf_ald 0, zf_getR 14 7, zf_ild 1, zf_aldI 100, zf_add, zf_ic2 .ge 82, zf_ald 0, zf_ald 0, zf_getR 14 8, zf_ild 7, zf_aldL, zf_ald 0, zf_getR 14 9, zf_ild 7, zf_aldL, zf_ild 2, zf_lld 5, zf_inv h 14 26 4, zf_if .ge 76, zf_ic 0, zf_retz], 76),
  (76, [zf_inc 7 1, zf_go 34], 82),
  (82, [zf_ic 8, zf_ild 2, zf_mul, zf_ist 7], 88),
  (88, [zf_ild 7, zf_ic 8, zf_ild 2, zf_mul, zf_ald 0, zf_getR 14 7, zf_ild 2, zf_aldI 100, zf_add, zf_ic2 .ge 136, zf_ald 0, zf_ald 0, zf_getR 14 8, zf_ild 7, zf_aldL, zf_ald 0, zf_getR 14 9, zf_ild 7, zf_aldL, zf_ild 1, zf_lld 5, zf_inv h 14 26 4, zf_if .ge 130, zf_ic 0, zf_retz], 130),
  (130, [zf_inc 7 1, zf_go 88], 136),
  (136, [zf_ic 1, zf_retz], 138)]
theorem zT14_11 (h : Nat) : zTab h 14 11 8 (zt14_11 h) := zTab.mk (ret := (some .boolean)) (bl := xk14_11) (by decide +kernel) (by decide +kernel) rfl rfl
def zt14_12 (h : Nat) : ZB := [(0, [zf_ald 0, zf_getR 14 18, zf_ic 3, zf_ild 1, zf_mul, zf_ic 1, zf_add, zf_aldI 100, zf_ist 5, zf_ald 0, zf_getR 14 4, zf_ild 5, zf_aldI 100, zf_ald 0, zf_getR 14 4, zf_ild 3, zf_aldI 100, zf_sub, zf_i2l, zf_lst 6, zf_lld 6, zf_lc 0, zf_lcmp, zf_if .eq 41, zf_lld 6, zf_go 63], 41),
  (41, [zf_ald 0, zf_getR 14 8, zf_ic 8, zf_ild 5, zf_mul, zf_aldL, zf_ald 0, zf_getR 14 8, zf_ic 8, zf_ild 3, zf_mul, zf_aldL, zf_inst h 14 28 2], 63),
  (63, [zf_lst 6, zf_lld 6, zf_lc 0, zf_lcmp, zf_if .eq 77, zf_lld 6, zf_go 99], 77),
  (77, [zf_ald 0, zf_getR 14 9, zf_ic 8, zf_ild 5, zf_mul, zf_aldL, zf_ald 0, zf_getR 14 9, zf_ic 8, zf_ild 3, zf_mul, zf_aldL, zf_inst h 14 28 2], 99),
  (99, [zf_lst 6, zf_lld 6, zf_lc 0, zf_lcmp, zf_if .eq 113, zf_lld 6, zf_go 124], 113),
  (113, [zf_ald 0, zf_getR 14 18, zf_ic 3, zf_ild 1, zf_mul, zf_aldI 100, zf_ild 2, zf_sub, zf_i2l], 124),
  (124, [zf_lst 6, zf_lld 6, zf_lc 0, zf_lcmp, zf_if .eq 138, zf_lld 6, zf_go 143], 138),
  (138, [zf_ild 5, zf_ild 3, zf_sub, zf_i2l], 143),
  (143, [zf_lst 6, zf_lld 6, zf_lc 0, zf_lcmp, zf_if .eq 157, zf_lld 6, zf_go 171], 157),
  (157, [zf_ald 0, zf_getR 14 18, zf_ic 3, zf_ild 1, zf_mul, zf_ic 2, zf_add, zf_aldI 100, zf_ild 4, zf_sub, zf_i2l], 171),
  (171, [zf_lst 6, zf_lld 6, zf_lc 0, zf_lcmp, zf_if .le 184, zf_ic 1, zf_go 185], 184),
  (184, [zf_ic 0], 185),
  (185, [zf_retz], 186)]
theorem zT14_12 (h : Nat) : zTab h 14 12 8 (zt14_12 h) := zTab.mk (ret := (some .boolean)) (bl := xk14_12) (by decide +kernel) (by decide +kernel) rfl rfl
def zt14_13 (h : Nat) : ZB := [(0, [zf_ild 0, zf_ic (-1), zf_ic2 .lt 15, zf_ild 0, zf_ic 8, zf_ic2 .ge 15, zf_ic 1, zf_go 16], 15),
  (15, [zf_ic 0], 16),
  (16, [zf_retz], 17)]
theorem zT14_13 (h : Nat) : zTab h 14 13 1 (zt14_13 h) := zTab.mk (ret := (some .boolean)) (bl := xk14_13) (by decide +kernel) (by decide +kernel) rfl rfl
def zt14_14 (h : Nat) : ZB := [(0, [zf_ald 0, zf_getR 14 5, zf_ild 1, zf_aldI 100, zf_if .eq 19, zf_ald 0, zf_getR 14 5, zf_ild 1, zf_aldI 100, zf_ic 1, zf_ic2 .ne 23], 19),
  (19, [zf_ic 1, zf_go 24], 23),
  (23, [zf_ic 0], 24),
  (24, [zf_retz], 25)]
theorem zT14_14 (h : Nat) : zTab h 14 14 2 (zt14_14 h) := zTab.mk (ret := (some .boolean)) (bl := xk14_14) (by decide +kernel) (by decide +kernel) rfl rfl
def zt14_15 (h : Nat) : ZB := [(0, [zf_ild 1, zf_lk 100 [(0, 28), (2, 74)]], 28),
  (28, [zf_ald 0, zf_ild 2, zf_inv h 14 14 1, zf_if .eq 72, zf_ald 0, zf_ild 3, zf_inv h 14 14 1, zf_if .eq 72, zf_ald 0, zf_getR 14 4, zf_ild 2, zf_aldI 100, zf_ald 0, zf_getR 14 4, zf_ild 3, zf_aldI 100, zf_ic2 .ne 72, zf_ald 0, zf_ild 2, zf_ild 3, zf_inv h 14 8 2, zf_if .ne 72, zf_ic 1, zf_go 73], 72),
  (72, [zf_ic 0], 73),
  (73, [zf_retz], 74),
  (74, [zf_ald 0, zf_getR 14 5, zf_ild 2, zf_aldI 100, zf_ic 2, zf_ic2 .ne 98, zf_ald 0, zf_getR 14 5, zf_ild 3, zf_aldI 100, zf_ic 2, zf_ic2 .ne 98, zf_ic 1, zf_go 99], 98),
  (98, [zf_ic 0], 99),
  (99, [zf_retz], 100),
  (100, [zf_ald 0, zf_getR 14 4, zf_ild 2, zf_aldI 100, zf_ald 0, zf_getR 14 4, zf_ild 3, zf_aldI 100, zf_ic2 .ne 159, zf_ald 0, zf_getR 14 5, zf_ild 2, zf_aldI 100, zf_ic 3, zf_ic2 .ne 135, zf_ald 0, zf_getR 14 5, zf_ild 3, zf_aldI 100, zf_ic 1, zf_ic2 .eq 155], 135),
  (135, [zf_ald 0, zf_getR 14 5, zf_ild 2, zf_aldI 100, zf_ic 1, zf_ic2 .ne 159, zf_ald 0, zf_getR 14 5, zf_ild 3, zf_aldI 100, zf_ic 3, zf_ic2 .ne 159], 155),
  (155, [zf_ic 1, zf_go 160], 159),
  (159, [zf_ic 0], 160),
  (160, [zf_retz], 161)]
theorem zT14_15 (h : Nat) : zTab h 14 15 4 (zt14_15 h) := zTab.mk (ret := (some .boolean)) (bl := xk14_15) (by decide +kernel) (by decide +kernel) rfl rfl
def zt14_16 (h : Nat) : ZB := [(0, [zf_ic 0, zf_ist 3], 2),
  (2, [zf_ild 3, zf_ald 0, zf_getI 14 2, zf_ic2 .ge 104, zf_ild 3, zf_ild 1, zf_ic2 .eq 62, zf_ald 0, zf_getR 14 10, zf_ild 3, zf_aldL, zf_lc 0, zf_lcmp, zf_if .le 62, zf_ald 0, zf_ild 3, zf_inv h 14 14 1, zf_if .eq 62, zf_ald 0, zf_getR 14 4, zf_ild 3, zf_aldI 100, zf_ald 0, zf_getR 14 4, zf_ild 1, zf_aldI 100, zf_ic2 .ne 62, zf_ald 0, zf_ild 1, zf_ild 3, zf_inv h 14 8 2, zf_if .eq 62, zf_ic 1, zf_go 63], 62),
  (62, [zf_ic 0], 63),
  (63, [zf_ist 4, zf_ild 4, zf_if .eq 98, zf_ald 0, zf_ald 0, zf_getR 14 8, zf_ild 2, zf_aldL, zf_ald 0, zf_getR 14 9, zf_ild 2, zf_aldL, zf_ild 3, zf_ald 0, zf_getR 14 10, zf_ild 3, zf_aldL, zf_inv h 14 26 4, zf_if .gt 98, zf_ic 1, zf_retz], 98),
  (98, [zf_inc 3 1, zf_go 2], 104),
  (104, [zf_ic 0, zf_retz], 106)]
theorem zT14_16 (h : Nat) : zTab h 14 16 5 (zt14_16 h) := zTab.mk (ret := (some .boolean)) (bl := xk14_16) (by decide +kernel) (by decide +kernel) rfl rfl
def zt14_17 (h : Nat) : ZB := [(0, [zf_ild 0, zf_ic (-1), zf_ic2 .eq 10, zf_ild 0, zf_ild 1, zf_ic2 .ne 14], 10),
  (10, [zf_ic 1, zf_go 15], 14),
  (14, [zf_ic 0], 15),
  (15, [zf_retz], 16)]
theorem zT14_17 (h : Nat) : zTab h 14 17 2 (zt14_17 h) := zTab.mk (ret := (some .boolean)) (bl := xk14_17) (by decide +kernel) (by decide +kernel) rfl rfl
def zt14_18 (h : Nat) : ZB := [(0, [zf_lld 0, zf_lc (-1000000), zf_lcmp, zf_if .lt 36, zf_lld 0, zf_lc 1000000, zf_lcmp, zf_if .gt 36, zf_lld 2, zf_lc (-1000000), zf_lcmp, zf_if .lt 36, zf_lld 2, zf_lc 1000000, zf_lcmp, zf_if .gt 36, zf_ic 1, zf_go 37], 36),
  (36, [zf_ic 0], 37),
  (37, [zf_retz], 38)]
theorem zT14_18 (h : Nat) : zTab h 14 18 4 (zt14_18 h) := zTab.mk (ret := (some .boolean)) (bl := xk14_18) (by decide +kernel) (by decide +kernel) rfl rfl
def zt14_19 (h : Nat) : ZB := [(0, [zf_ic 0, zf_ist 4], 3),
  (3, [zf_ild 4, zf_ald 0, zf_getI 14 2, zf_ic2 .ge 158, zf_ald 0, zf_getR 14 5, zf_ild 4, zf_aldI 100, zf_ic 1, zf_ic2 .ne 152, zf_ald 0, zf_getR 14 10, zf_ild 4, zf_aldL, zf_lc 0, zf_lcmp, zf_if .eq 152, zf_ald 0, zf_ild 1, zf_ild 4, zf_inv h 14 8 2, zf_if .ne 48, zf_go 152], 48),
  (48, [zf_ald 0, zf_getR 14 10, zf_ild 4, zf_aldL, zf_ald 0, zf_getR 14 10, zf_ild 1, zf_aldL, zf_lsub, zf_lld 2, zf_lsub, zf_lst 5, zf_lld 5, zf_lc 0, zf_lcmp, zf_if .lt 77, zf_ic 1, zf_go 78], 77),
  (77, [zf_ic 0], 78),
  (78, [zf_ist 7, zf_ic 8, zf_ild 1, zf_mul, zf_ist 8], 86),
  (86, [zf_ild 8, zf_ic 8, zf_ild 1, zf_mul, zf_ald 0, zf_getR 14 7, zf_ild 1, zf_aldI 100, zf_add, zf_ic2 .ge 145, zf_ild 7, zf_if .eq 145, zf_ald 0, zf_ald 0, zf_getR 14 8, zf_ild 8, zf_aldL, zf_ald 0, zf_getR 14 9, zf_ild 8, zf_aldL, zf_ild 4, zf_lld 5, zf_inv h 14 26 4, zf_if .gt 136, zf_ic 1, zf_go 137], 136),
  (136, [zf_ic 0], 137),
  (137, [zf_ist 7, zf_inc 8 1, zf_go 86], 145),
  (145, [zf_ild 7, zf_if .eq 152, zf_ic 1, zf_retz], 152),
  (152, [zf_inc 4 1, zf_go 3], 158),
  (158, [zf_ic 0, zf_retz], 160)]
theorem zT14_19 (h : Nat) : zTab h 14 19 9 (zt14_19 h) := zTab.mk (ret := (some .boolean)) (bl := xk14_19) (by decide +kernel) (by decide +kernel) rfl rfl
def zt14_20 (h : Nat) : ZB := [(0, [zf_ild 1, zf_if .lt 16, zf_ild 1, zf_ald 0, zf_getI 14 2, zf_ic2 .ge 16, zf_ic 1, zf_go 17], 16),
  (16, [zf_ic 0], 17),
  (17, [zf_retz], 18)]
theorem zT14_20 (h : Nat) : zTab h 14 20 2 (zt14_20 h) := zTab.mk (ret := (some .boolean)) (bl := xk14_20) (by decide +kernel) (by decide +kernel) rfl rfl
def zt14_21 (h : Nat) : ZB := [(0, [zf_ild 1, zf_if .lt 16, zf_ild 1, zf_ald 0, zf_getI 14 19, zf_ic2 .ge 16, zf_ic 1, zf_go 17], 16),
  (16, [zf_ic 0], 17),
  (17, [zf_retz], 18)]
theorem zT14_21 (h : Nat) : zTab h 14 21 2 (zt14_21 h) := zTab.mk (ret := (some .boolean)) (bl := xk14_21) (by decide +kernel) (by decide +kernel) rfl rfl
def zt14_22 (h : Nat) : ZB := [(0, [zf_ic 0, zf_ist 2], 2),
  (2, [zf_ild 2, zf_ald 0, zf_getI 14 23, zf_ic2 .ge 74, zf_ic 1, zf_ist 3, zf_ic 0, zf_ist 4], 15),
  (15, [zf_ild 4, zf_ic 3, zf_ic2 .ge 62, zf_ild 3, zf_if .eq 54, zf_ald 0, zf_getR 14 24, zf_ic 3, zf_ild 2, zf_mul, zf_ild 4, zf_add, zf_aldI 100, zf_ald 0, zf_getR 14 20, zf_ic 3, zf_ild 1, zf_mul, zf_ild 4, zf_add, zf_aldI 100, zf_ic2 .ne 54, zf_ic 1, zf_go 55], 54),
  (54, [zf_ic 0], 55),
  (55, [zf_ist 3, zf_inc 4 1, zf_go 15], 62),
  (62, [zf_ild 3, zf_if .eq 68, zf_ic 1, zf_retz], 68),
  (68, [zf_inc 2 1, zf_go 2], 74),
  (74, [zf_ic 0, zf_retz], 76)]
theorem zT14_22 (h : Nat) : zTab h 14 22 5 (zt14_22 h) := zTab.mk (ret := (some .boolean)) (bl := xk14_22) (by decide +kernel) (by decide +kernel) rfl rfl
def zt14_23 (h : Nat) : ZB := [(0, [zf_ic 0, zf_ist 3], 2),
  (2, [zf_ild 3, zf_ald 0, zf_ild 1, zf_inv h 14 25 1, zf_ic2 .ge 284, zf_ic 8, zf_ild 1, zf_mul, zf_ild 3, zf_add, zf_ist 4, zf_ald 0, zf_ild 1, zf_ild 3, zf_inv h 14 5 2, zf_ist 5, zf_ic 0, zf_ist 6], 30),
  (30, [zf_ild 6, zf_ald 0, zf_ild 2, zf_inv h 14 25 1, zf_ic2 .ge 278, zf_ic 8, zf_ild 2, zf_mul, zf_ild 6, zf_add, zf_ist 7, zf_ald 0, zf_ild 2, zf_ild 6, zf_inv h 14 5 2, zf_ist 8, zf_ald 0, zf_getR 14 8, zf_ild 4, zf_aldL, zf_ald 0, zf_getR 14 9, zf_ild 4, zf_aldL, zf_ald 0, zf_getR 14 8, zf_ild 5, zf_aldL, zf_ald 0, zf_getR 14 9, zf_ild 5, zf_aldL, zf_ald 0, zf_getR 14 8, zf_ild 7, zf_aldL, zf_ald 0, zf_getR 14 9, zf_ild 7, zf_aldL, zf_inst h 14 33 6, zf_ald 0, zf_getR 14 8, zf_ild 4, zf_aldL, zf_ald 0, zf_getR 14 9, zf_ild 4, zf_aldL, zf_ald 0, zf_getR 14 8, zf_ild 5, zf_aldL, zf_ald 0, zf_getR 14 9, zf_ild 5, zf_aldL, zf_ald 0, zf_getR 14 8, zf_ild 8, zf_aldL, zf_ald 0, zf_getR 14 9, zf_ild 8, zf_aldL, zf_inst h 14 33 6, zf_mul, zf_if .ge 156, zf_ic 1, zf_go 157], 156),
  (156, [zf_ic 0], 157),
  (157, [zf_ist 9, zf_ald 0, zf_getR 14 8, zf_ild 7, zf_aldL, zf_ald 0, zf_getR 14 9, zf_ild 7, zf_aldL, zf_ald 0, zf_getR 14 8, zf_ild 8, zf_aldL, zf_ald 0, zf_getR 14 9, zf_ild 8, zf_aldL, zf_ald 0, zf_getR 14 8, zf_ild 4, zf_aldL, zf_ald 0, zf_getR 14 9, zf_ild 4, zf_aldL, zf_inst h 14 33 6, zf_ald 0, zf_getR 14 8, zf_ild 7, zf_aldL, zf_ald 0, zf_getR 14 9, zf_ild 7, zf_aldL, zf_ald 0, zf_getR 14 8, zf_ild 8, zf_aldL, zf_ald 0, zf_getR 14 9, zf_ild 8, zf_aldL, zf_ald 0, zf_getR 14 8, zf_ild 5, zf_aldL, zf_ald 0, zf_getR 14 9, zf_ild 5, zf_aldL, zf_inst h 14 33 6, zf_mul, zf_if .ge 257, zf_ic 1, zf_go 258], 257),
  (257, [zf_ic 0], 258),
  (258, [zf_ist 10, zf_ild 9, zf_if .eq 272, zf_ild 10, zf_if .eq 272, zf_ic 1, zf_retz], 272),
  (272, [zf_inc 6 1, zf_go 30], 278),
  (278, [zf_inc 3 1, zf_go 2], 284),
  (284, [zf_ic 0, zf_retz], 286)]
theorem zT14_23 (h : Nat) : zTab h 14 23 11 (zt14_23 h) := zTab.mk (ret := (some .boolean)) (bl := xk14_23) (by decide +kernel) (by decide +kernel) rfl rfl
def zt14_24 (h : Nat) : ZB := [(0, [zf_lld 0, zf_lld 2, zf_lmul, zf_lc 4611686018427387903, zf_lbit zland, zf_retl], 8)]
theorem zT14_24 (h : Nat) : zTab h 14 24 4 (zt14_24 h) := zTab.mk (ret := (some .long)) (bl := xk14_24) (by decide +kernel) (by decide +kernel) rfl rfl
def zt14_25 (h : Nat) : ZB := [(0, [zf_ald 0, zf_getR 14 7, zf_ild 1, zf_aldI 100, zf_ic 1, zf_ic2 .ne 14, zf_ic 1, zf_go 22], 14),
  (14, [zf_ald 0, zf_getR 14 7, zf_ild 1, zf_aldI 100, zf_ic 1, zf_sub], 22),
  (22, [zf_reti], 23)]
theorem zT14_25 (h : Nat) : zTab h 14 25 2 (zt14_25 h) := zTab.mk (ret := (some .int)) (bl := xk14_25) (by decide +kernel) (by decide +kernel) rfl rfl
def zt14_26 (h : Nat) : ZB := [(0, [zf_ic 1, zf_ist 8, zf_ic 0, zf_ist 9], 6),
  (6, [zf_ild 9, zf_ald 0, zf_ild 5, zf_inv h 14 25 1, zf_ic2 .ge 96, zf_ic 8, zf_ild 5, zf_mul, zf_ild 9, zf_add, zf_ist 10, zf_ald 0, zf_ild 5, zf_ild 9, zf_inv h 14 5 2, zf_ist 11, zf_lld 1, zf_lld 3, zf_ald 0, zf_getR 14 8, zf_ild 10, zf_aldL, zf_ald 0, zf_getR 14 9, zf_ild 10, zf_aldL, zf_ald 0, zf_getR 14 8, zf_ild 11, zf_aldL, zf_ald 0, zf_getR 14 9, zf_ild 11, zf_aldL, zf_lld 6, zf_inst h 14 7 7, zf_ist 12, zf_ild 12, zf_ild 8, zf_ic2 .ge 86, zf_ild 12, zf_go 88], 86),
  (86, [zf_ild 8], 88),
  (88, [zf_ist 8, zf_inc 9 1, zf_go 6], 96),
  (96, [zf_ild 8, zf_reti], 99)]
theorem zT14_26 (h : Nat) : zTab h 14 26 13 (zt14_26 h) := zTab.mk (ret := (some .int)) (bl := xk14_26) (by decide +kernel) (by decide +kernel) rfl rfl
def zt14_27 (h : Nat) : ZB := [(0, [zf_ald 0, zf_getI 14 17, zf_ist 4], 6),
  (6, [zf_ild 4, zf_if .le 72, zf_ald 0, zf_ild 4, zf_ic 1, zf_sub, zf_ild 1, zf_ild 2, zf_ild 3, zf_inv h 14 12 4, zf_if .eq 72, zf_ic 0, zf_ist 5], 28),
  (28, [zf_ild 5, zf_ic 3, zf_ic2 .ge 66, zf_ald 0, zf_getR 14 18, zf_ic 3, zf_ild 4, zf_mul, zf_ild 5, zf_add, zf_ald 0, zf_getR 14 18, zf_ic 3, zf_ild 4, zf_mul, zf_ic 3, zf_sub, zf_ild 5, zf_add, zf_aldI 100, zf_astI, zf_inc 5 1, zf_go 28], 66),
  (66, [zf_inc 4 (-1), zf_go 6], 72),
  (72, [zf_ald 0, zf_getR 14 18, zf_ic 3, zf_ild 4, zf_mul, zf_ild 1, zf_astI, zf_ald 0, zf_getR 14 18, zf_ic 3, zf_ild 4, zf_mul, zf_ic 1, zf_add, zf_ild 2, zf_astI, zf_ald 0, zf_getR 14 18, zf_ic 3, zf_ild 4, zf_mul, zf_ic 2, zf_add, zf_ild 3, zf_astI, zf_ald 0, zf_dup, zf_getI 14 17, zf_ic 1, zf_add, zf_putI 14 17, zf_ret], 117)]
theorem zT14_27 (h : Nat) : zTab h 14 27 6 (zt14_27 h) := zTab.mk (ret := none) (bl := xk14_27) (by decide +kernel) (by decide +kernel) rfl rfl
def zt14_28 (h : Nat) : ZB := [(0, [zf_lld 0, zf_lld 2, zf_lcmp, zf_if .ge 12, zf_lc (-1), zf_go 23], 12),
  (12, [zf_lld 0, zf_lld 2, zf_lcmp, zf_if .le 22, zf_lc 1, zf_go 23], 22),
  (22, [zf_lc 0], 23),
  (23, [zf_retl], 24)]
theorem zT14_28 (h : Nat) : zTab h 14 28 4 (zt14_28 h) := zTab.mk (ret := (some .long)) (bl := xk14_28) (by decide +kernel) (by decide +kernel) rfl rfl
def zt14_29 (h : Nat) : ZB := [(0, [zf_ild 1, zf_if .lt 53, zf_ild 1, zf_ic 7, zf_ic2 .ge 53, zf_ild 2, zf_inst h 14 13 1, zf_if .eq 53, zf_ild 3, zf_inst h 14 13 1, zf_if .eq 53, zf_lld 4, zf_lc 0, zf_lcmp, zf_if .lt 53, zf_lld 4, zf_ild 1, zf_ic 5, zf_ic2 .ge 44, zf_lc 100000, zf_go 45], 44),
  (44, [zf_lc 0], 45),
  (45, [zf_lcmp, zf_if .gt 53, zf_ic 1, zf_go 54], 53),
  (53, [zf_ic 0], 54),
  (54, [zf_ist 6, zf_ald 0, zf_ild 6, zf_if .eq 66, zf_ic 0, zf_go 67], 66),
  (66, [zf_ic 1], 67),
  (67, [zf_putI 14 0, zf_ald 0, zf_getI 14 0, zf_if .eq 79, zf_ic 0, zf_reti], 79),
  (79, [zf_ald 0, zf_getI 14 11, zf_ic 30, zf_ic2 .ne 90, zf_ic (-1), zf_reti], 90),
  (90, [zf_ald 0, zf_getR 14 12, zf_ald 0, zf_getI 14 11, zf_ild 1, zf_astI, zf_ald 0, zf_getR 14 13, zf_ald 0, zf_getI 14 11, zf_ild 2, zf_astI, zf_ald 0, zf_getR 14 14, zf_ald 0, zf_getI 14 11, zf_ild 3, zf_astI, zf_ald 0, zf_getR 14 15, zf_ald 0, zf_getI 14 11, zf_lld 4, zf_astL, zf_ald 0, zf_dup, zf_getI 14 11, zf_ic 1, zf_add, zf_putI 14 11, zf_ald 0, zf_getI 14 11, zf_ic 1, zf_sub, zf_reti], 148)]
theorem zT14_29 (h : Nat) : zTab h 14 29 7 (zt14_29 h) := zTab.mk (ret := (some .int)) (bl := xk14_29) (by decide +kernel) (by decide +kernel) rfl rfl
def zt14_30 (h : Nat) : ZB := [(0, [zf_ic (-1), zf_ist 4, zf_ic 0, zf_ist 5], 6),
  (6, [zf_ild 5, zf_ald 0, zf_getI 14 11, zf_ic2 .ge 156, zf_ald 0, zf_getR 14 12, zf_ild 5, zf_aldI 100, zf_ild 1, zf_ic2 .eq 29, zf_go 150], 29),
  (29, [zf_ild 3, zf_ic (-1), zf_ic2 .ne 53, zf_ald 0, zf_getR 14 13, zf_ild 5, zf_aldI 100, zf_ald 0, zf_getR 14 6, zf_ild 2, zf_aldI 100, zf_inst h 14 17 2, zf_go 134], 53),
  (53, [zf_ald 0, zf_getR 14 13, zf_ild 5, zf_aldI 100, zf_ald 0, zf_getR 14 6, zf_ild 2, zf_aldI 100, zf_inst h 14 17 2, zf_if .eq 91, zf_ald 0, zf_getR 14 14, zf_ild 5, zf_aldI 100, zf_ald 0, zf_getR 14 6, zf_ild 3, zf_aldI 100, zf_inst h 14 17 2, zf_if .ne 129], 91),
  (91, [zf_ald 0, zf_getR 14 13, zf_ild 5, zf_aldI 100, zf_ald 0, zf_getR 14 6, zf_ild 3, zf_aldI 100, zf_inst h 14 17 2, zf_if .eq 133, zf_ald 0, zf_getR 14 14, zf_ild 5, zf_aldI 100, zf_ald 0, zf_getR 14 6, zf_ild 2, zf_aldI 100, zf_inst h 14 17 2, zf_if .eq 133], 129),
  (129, [zf_ic 1, zf_go 134], 133),
  (133, [zf_ic 0], 134),
  (134, [zf_ist 6, zf_ild 6, zf_if .eq 146, zf_ild 5, zf_go 148], 146),
  (146, [zf_ild 4], 148),
  (148, [zf_ist 4], 150),
  (150, [zf_inc 5 1, zf_go 6], 156),
  (156, [zf_ild 4, zf_reti], 159)]
theorem zT14_30 (h : Nat) : zTab h 14 30 7 (zt14_30 h) := zTab.mk (ret := (some .int)) (bl := xk14_30) (by decide +kernel) (by decide +kernel) rfl rfl
def zt14_31 (h : Nat) : ZB := [(0, [zf_ald 0, zf_ild 1, zf_ic 1, zf_ic2 .lt 16, zf_ild 1, zf_ic 8, zf_ic2 .gt 16, zf_ic 0, zf_go 17], 16),
  (16, [zf_ic 1], 17),
  (17, [zf_putI 14 0, zf_ald 0, zf_getI 14 0, zf_if .eq 29, zf_ic 0, zf_reti], 29),
  (29, [zf_ald 0, zf_inv h 14 6 0, zf_ald 0, zf_ald 0, zf_getI 14 17, zf_putI 14 19, zf_ic 0, zf_ist 4, zf_ic 0, zf_ist 5], 47),
  (47, [zf_ild 5, zf_ald 0, zf_getI 14 19, zf_ic2 .ge 172, zf_ic 0, zf_ist 6], 59),
  (59, [zf_ild 6, zf_ic 3, zf_ic2 .ge 95, zf_ald 0, zf_getR 14 20, zf_ic 3, zf_ild 5, zf_mul, zf_ild 6, zf_add, zf_ald 0, zf_getR 14 18, zf_ic 3, zf_ild 5, zf_mul, zf_ild 6, zf_add, zf_aldI 100, zf_astI, zf_inc 6 1, zf_go 59], 95),
  (95, [zf_ald 0, zf_getR 14 21, zf_ild 5, zf_ald 0, zf_getR 14 8, zf_ic 8, zf_ald 0, zf_getR 14 20, zf_ic 3, zf_ild 5, zf_mul, zf_ic 1, zf_add, zf_aldI 100, zf_mul, zf_aldL, zf_astL, zf_ald 0, zf_getR 14 22, zf_ild 5, zf_ald 0, zf_getR 14 9, zf_ic 8, zf_ald 0, zf_getR 14 20, zf_ic 3, zf_ild 5, zf_mul, zf_ic 1, zf_add, zf_aldI 100, zf_mul, zf_aldL, zf_astL, zf_ild 4, zf_ald 0, zf_ild 5, zf_inv h 14 22 1, zf_if .eq 162, zf_ic 0, zf_go 163], 162),
  (162, [zf_ic 1], 163),
  (163, [zf_add, zf_ist 4, zf_inc 5 1, zf_go 47], 172),
  (172, [zf_ild 4, zf_reti], 175)]
theorem zT14_31 (h : Nat) : zTab h 14 31 7 (zt14_31 h) := zTab.mk (ret := (some .int)) (bl := xk14_31) (by decide +kernel) (by decide +kernel) rfl rfl
def zt14_32 (h : Nat) : ZB := [(0, [zf_ild 1, zf_ic (-1), zf_ic2 .lt 25, zf_ild 1, zf_ic 1000, zf_ic2 .ge 25, zf_ild 3, zf_if .lt 25, zf_ild 3, zf_ic 4, zf_ic2 .ge 25, zf_ic 1, zf_go 26], 25),
  (25, [zf_ic 0], 26),
  (26, [zf_ist 4, zf_ald 0, zf_ild 2, zf_if .lt 41, zf_ild 2, zf_ald 0, zf_getI 14 1, zf_ic2 .lt 45], 41),
  (41, [zf_ic 1, zf_go 55], 45),
  (45, [zf_ild 4, zf_if .eq 54, zf_ic 0, zf_go 55], 54),
  (54, [zf_ic 2], 55),
  (55, [zf_putI 14 0, zf_ald 0, zf_getI 14 0, zf_if .eq 67, zf_ic 0, zf_reti], 67),
  (67, [zf_ald 0, zf_getI 14 2, zf_ic 60, zf_ic2 .ne 78, zf_ic (-1), zf_reti], 78),
  (78, [zf_ald 0, zf_getR 14 3, zf_ald 0, zf_getI 14 2, zf_ild 1, zf_astI, zf_ald 0, zf_getR 14 4, zf_ald 0, zf_getI 14 2, zf_ild 2, zf_astI, zf_ald 0, zf_getR 14 5, zf_ald 0, zf_getI 14 2, zf_ild 3, zf_astI, zf_ald 0, zf_dup, zf_getI 14 2, zf_ic 1, zf_add, zf_putI 14 2, zf_ald 0, zf_getI 14 2, zf_ic 1, zf_sub, zf_reti], 125)]
theorem zT14_32 (h : Nat) : zTab h 14 32 5 (zt14_32 h) := zTab.mk (ret := (some .int)) (bl := xk14_32) (by decide +kernel) (by decide +kernel) rfl rfl
def zt14_33 (h : Nat) : ZB := [(0, [zf_lld 4, zf_lld 0, zf_lsub, zf_lld 10, zf_lld 2, zf_lsub, zf_lmul, zf_lld 6, zf_lld 2, zf_lsub, zf_lld 8, zf_lld 0, zf_lsub, zf_lmul, zf_lsub, zf_lst 12, zf_lld 12, zf_lc 0, zf_lcmp, zf_if .ge 32, zf_ic (-1), zf_go 44], 32),
  (32, [zf_lld 12, zf_lc 0, zf_lcmp, zf_if .le 43, zf_ic 1, zf_go 44], 43),
  (43, [zf_ic 0], 44),
  (44, [zf_reti], 45)]
theorem zT14_33 (h : Nat) : zTab h 14 33 14 (zt14_33 h) := zTab.mk (ret := (some .int)) (bl := xk14_33) (by decide +kernel) (by decide +kernel) rfl rfl
def zt14_34 (h : Nat) : ZB := [(0, [zf_lld 0, zf_ic 31, zf_lsh zlshr, zf_lst 4, zf_lld 0, zf_lc 2147483647, zf_lbit zland, zf_lst 6, zf_lld 2, zf_ic 31, zf_lsh zlshr, zf_lst 8, zf_lld 2, zf_lc 2147483647, zf_lbit zland, zf_lst 10, zf_lld 4, zf_lld 10, zf_lmul, zf_lld 6, zf_lld 10, zf_lmul, zf_ic 31, zf_lsh zlshr, zf_ladd, zf_lst 12, zf_lld 6, zf_lld 8, zf_lmul, zf_lld 12, zf_lc 2147483647, zf_lbit zland, zf_ladd, zf_lst 14, zf_lld 4, zf_lld 8, zf_lmul, zf_lld 12, zf_ic 31, zf_lsh zlshr, zf_ladd, zf_lld 14, zf_ic 31, zf_lsh zlshr, zf_ladd, zf_retl], 74)]
theorem zT14_34 (h : Nat) : zTab h 14 34 16 (zt14_34 h) := zTab.mk (ret := (some .long)) (bl := xk14_34) (by decide +kernel) (by decide +kernel) rfl rfl
def zt14_35 (h : Nat) : ZB := [(0, [zf_ald 0, zf_ald 0, zf_ild 1, zf_inv h 14 21 1, zf_if .eq 22, zf_ild 2, zf_if .lt 22, zf_ild 2, zf_ic 4, zf_ic2 .ge 22, zf_ic 0, zf_go 23], 22),
  (22, [zf_ic 1], 23),
  (23, [zf_putI 14 0, zf_ald 0, zf_getI 14 0, zf_if .eq 35, zf_ic 0, zf_reti], 35),
  (35, [zf_ild 2, zf_ic 3, zf_ic2 .ge 53, zf_ald 0, zf_getR 14 20, zf_ic 3, zf_ild 1, zf_mul, zf_ild 2, zf_add, zf_aldI 100, zf_go 66], 53),
  (53, [zf_ald 0, zf_ild 1, zf_inv h 14 22 1, zf_if .eq 65, zf_ic 1, zf_go 66], 65),
  (65, [zf_ic 0], 66),
  (66, [zf_reti], 67)]
theorem zT14_35 (h : Nat) : zTab h 14 35 3 (zt14_35 h) := zTab.mk (ret := (some .int)) (bl := xk14_35) (by decide +kernel) (by decide +kernel) rfl rfl
def zt15_0 (h : Nat) : ZB := [(0, [zf_ald 0, zf_getI 15 2, zf_ic 60, zf_ic2 .ne 11, zf_ic (-1), zf_reti], 11),
  (11, [zf_ald 0, zf_getR 15 3, zf_ald 0, zf_getI 15 2, zf_ic 1, zf_astB, zf_ald 0, zf_getR 15 4, zf_ald 0, zf_getI 15 2, zf_ild 1, zf_astI, zf_ald 0, zf_getR 15 5, zf_ald 0, zf_getI 15 2, zf_ild 2, zf_astI, zf_ald 0, zf_getR 15 6, zf_ald 0, zf_getI 15 2, zf_lld 3, zf_astL, zf_ald 0, zf_getR 15 7, zf_ald 0, zf_getI 15 2, zf_lld 5, zf_astL, zf_ald 0, zf_getR 15 8, zf_ald 0, zf_getI 15 2, zf_lld 7, zf_astL, zf_ald 0, zf_getR 15 9, zf_ald 0, zf_getI 15 2, zf_lld 9, zf_astL, zf_ald 0, zf_getR 15 10, zf_ald 0, zf_getI 15 2, zf_lld 11, zf_astL, zf_ald 0, zf_getR 15 11, zf_ald 0, zf_getI 15 2, zf_ild 13, zf_astI, zf_ald 0, zf_dup, zf_getI 15 2, zf_ic 1, zf_add, zf_putI 15 2, zf_ald 0, zf_getI 15 2, zf_ic 1, zf_sub, zf_reti], 123)]
theorem zT15_0 (h : Nat) : zTab h 15 0 14 (zt15_0 h) := zTab.mk (ret := (some .int)) (bl := xk15_0) (by decide +kernel) (by decide +kernel) rfl rfl
def zt15_1 (h : Nat) : ZB := [(0, [zf_ald 0, zf_inv h 15 5 0, zf_pop, zf_ic 0, zf_ist 2], 7),
  (7, [zf_ild 2, zf_ald 0, zf_getI 15 2, zf_ic2 .ge 33, zf_ald 0, zf_getR 15 15, zf_ild 2, zf_ald 0, zf_getR 15 14, zf_ild 2, zf_aldI 100, zf_astI, zf_inc 2 1, zf_go 7], 33),
  (33, [zf_ic 0, zf_ist 2], 35),
  (35, [zf_ald 0, zf_ild 1, zf_inv h 15 18 1, zf_if .eq 49, zf_inc 2 1, zf_go 35], 49),
  (49, [zf_ild 2, zf_reti], 51)]
theorem zT15_1 (h : Nat) : zTab h 15 1 3 (zt15_1 h) := zTab.mk (ret := (some .int)) (bl := xk15_1) (by decide +kernel) (by decide +kernel) rfl rfl
def zt15_2 (h : Nat) : ZB := [(0, [zf_ald 0, zf_inv h 15 5 0, zf_ist 1, zf_ic 0, zf_ist 2, zf_ic 0, zf_ist 3], 9),
  (9, [zf_ild 3, zf_ild 1, zf_ic2 .ge 39, zf_ild 2, zf_ald 0, zf_ild 3, zf_inv h 15 17 1, zf_inst h 15 13 1, zf_if .eq 30, zf_ic 1, zf_go 31], 30),
  (30, [zf_ic 0], 31),
  (31, [zf_add, zf_ist 2, zf_inc 3 1, zf_go 9], 39),
  (39, [zf_ild 2, zf_reti], 41)]
theorem zT15_2 (h : Nat) : zTab h 15 2 4 (zt15_2 h) := zTab.mk (ret := (some .int)) (bl := xk15_2) (by decide +kernel) (by decide +kernel) rfl rfl
def zt15_3 (h : Nat) : ZB := [(0, [zf_ild 2, zf_if .ge 6, zf_ic 0, zf_retz], 6),
  (6, [zf_ald 0, zf_inv h 15 5 0, zf_pop, zf_ic 0, zf_ist 3], 13),
  (13, [zf_ild 3, zf_ald 0, zf_getI 15 2, zf_ic2 .ge 39, zf_ald 0, zf_getR 15 15, zf_ild 3, zf_ald 0, zf_getR 15 14, zf_ild 3, zf_aldI 100, zf_astI, zf_inc 3 1, zf_go 13], 39),
  (39, [zf_ic 0, zf_ist 3], 41),
  (41, [zf_ild 3, zf_ild 2, zf_ic2 .gt 62, zf_ald 0, zf_ild 1, zf_inv h 15 18 1, zf_if .ne 56, zf_ic 0, zf_retz], 56),
  (56, [zf_inc 3 1, zf_go 41], 62),
  (62, [zf_ic 1, zf_retz], 64)]
theorem zT15_3 (h : Nat) : zTab h 15 3 4 (zt15_3 h) := zTab.mk (ret := (some .boolean)) (bl := xk15_3) (by decide +kernel) (by decide +kernel) rfl rfl
def zt15_4 (h : Nat) : ZB := [(0, [zf_ic 0, zf_ist 1], 2),
  (2, [zf_ild 1, zf_ald 0, zf_getI 15 2, zf_ic2 .ge 36, zf_ald 0, zf_getR 15 13, zf_ild 1, zf_ald 0, zf_getR 15 3, zf_ild 1, zf_aldB, zf_if .eq 28, zf_ild 1, zf_go 29], 28),
  (28, [zf_ic (-1)], 29),
  (29, [zf_astI, zf_inc 1 1, zf_go 2], 36),
  (36, [zf_ic 1, zf_ist 1], 38),
  (38, [zf_ild 1, zf_if .eq 153, zf_ic 0, zf_ist 1, zf_ic 0, zf_ist 2], 46),
  (46, [zf_ild 2, zf_ald 0, zf_getI 15 2, zf_ic2 .ge 150, zf_ic 0, zf_ist 3], 56),
  (56, [zf_ild 3, zf_ild 2, zf_ic2 .ge 144, zf_ald 0, zf_getR 15 13, zf_ild 2, zf_aldI 100, zf_ald 0, zf_getR 15 13, zf_ild 3, zf_aldI 100, zf_ic2 .eq 138, zf_ald 0, zf_ild 2, zf_ild 3, zf_inv h 15 26 2, zf_if .ne 88, zf_go 138], 88),
  (88, [zf_ald 0, zf_getR 15 13, zf_ild 2, zf_aldI 100, zf_ald 0, zf_getR 15 13, zf_ild 3, zf_aldI 100, zf_ic2 .ge 112, zf_ald 0, zf_getR 15 13, zf_ild 2, zf_aldI 100, zf_go 118], 112),
  (112, [zf_ald 0, zf_getR 15 13, zf_ild 3, zf_aldI 100], 118),
  (118, [zf_ist 4, zf_ald 0, zf_getR 15 13, zf_ild 2, zf_ild 4, zf_astI, zf_ald 0, zf_getR 15 13, zf_ild 3, zf_ild 4, zf_astI, zf_ic 1, zf_ist 1], 138),
  (138, [zf_inc 3 1, zf_go 56], 144),
  (144, [zf_inc 2 1, zf_go 46], 150),
  (150, [zf_go 38], 153),
  (153, [zf_ret], 154)]
theorem zT15_4 (h : Nat) : zTab h 15 4 5 (zt15_4 h) := zTab.mk (ret := none) (bl := xk15_4) (by decide +kernel) (by decide +kernel) rfl rfl
def zt15_5 (h : Nat) : ZB := [(0, [zf_ald 0, zf_inv h 15 4 0, zf_ic 0, zf_ist 1, zf_ic 0, zf_ist 2], 8),
  (8, [zf_ild 2, zf_ald 0, zf_getI 15 2, zf_ic2 .ge 82, zf_ald 0, zf_getR 15 13, zf_ild 2, zf_aldI 100, zf_ic (-1), zf_ic2 .ne 36, zf_ald 0, zf_getR 15 14, zf_ild 2, zf_ic (-1), zf_astI, zf_go 76], 36),
  (36, [zf_ald 0, zf_getR 15 13, zf_ild 2, zf_aldI 100, zf_ild 2, zf_ic2 .ne 59, zf_ald 0, zf_getR 15 14, zf_ild 2, zf_ild 1, zf_astI, zf_inc 1 1, zf_go 76], 59),
  (59, [zf_ald 0, zf_getR 15 14, zf_ild 2, zf_ald 0, zf_getR 15 14, zf_ald 0, zf_getR 15 13, zf_ild 2, zf_aldI 100, zf_aldI 100, zf_astI], 76),
  (76, [zf_inc 2 1, zf_go 8], 82),
  (82, [zf_ild 1, zf_reti], 84)]
theorem zT15_5 (h : Nat) : zTab h 15 5 3 (zt15_5 h) := zTab.mk (ret := (some .int)) (bl := xk15_5) (by decide +kernel) (by decide +kernel) rfl rfl
def zt15_6 (h : Nat) : ZB := [(0, [zf_lld 4, zf_lld 2, zf_lcmp, zf_if .le 14, zf_lld 4, zf_lld 2, zf_lsub, zf_go 29], 14),
  (14, [zf_lld 0, zf_lld 6, zf_lcmp, zf_if .le 28, zf_lld 0, zf_lld 6, zf_lsub, zf_go 29], 28),
  (28, [zf_lc 0], 29),
  (29, [zf_retl], 30)]
theorem zT15_6 (h : Nat) : zTab h 15 6 8 (zt15_6 h) := zTab.mk (ret := (some .long)) (bl := xk15_6) (by decide +kernel) (by decide +kernel) rfl rfl
def zt15_7 (h : Nat) : ZB := [(0, [zf_ald 0, zf_ini, zf_ald 0, zf_ic 60, zf_newA 103, zf_putR 15 3, zf_ald 0, zf_ic 60, zf_newA 100, zf_putR 15 4, zf_ald 0, zf_ic 60, zf_newA 100, zf_putR 15 5, zf_ald 0, zf_ic 60, zf_newA 101, zf_putR 15 6, zf_ald 0, zf_ic 60, zf_newA 101, zf_putR 15 7, zf_ald 0, zf_ic 60, zf_newA 101, zf_putR 15 8, zf_ald 0, zf_ic 60, zf_newA 101, zf_putR 15 9, zf_ald 0, zf_ic 60, zf_newA 101, zf_putR 15 10, zf_ald 0, zf_ic 60, zf_newA 100, zf_putR 15 11, zf_ald 0, zf_ic 40, zf_newA 100, zf_putR 15 12, zf_ald 0, zf_ic 60, zf_newA 100, zf_putR 15 13, zf_ald 0, zf_ic 60, zf_newA 100, zf_putR 15 14, zf_ald 0, zf_ic 60, zf_newA 100, zf_putR 15 15, zf_ald 0, zf_ild 1, zf_ic 1, zf_ic2 .ge 118, zf_ic 1, zf_go 130], 118),
  (118, [zf_ild 1, zf_ic 8, zf_ic2 .le 129, zf_ic 8, zf_go 130], 129),
  (129, [zf_ild 1], 130),
  (130, [zf_putI 15 1, zf_ic 0, zf_ist 2], 135),
  (135, [zf_ild 2, zf_ic 40, zf_ic2 .ge 154, zf_ald 0, zf_getR 15 12, zf_ild 2, zf_ic (-1), zf_astI, zf_inc 2 1, zf_go 135], 154),
  (154, [zf_ret], 155)]
theorem zT15_7 (h : Nat) : zTab h 15 7 3 (zt15_7 h) := zTab.mk (ret := none) (bl := xk15_7) (by decide +kernel) (by decide +kernel) rfl rfl
def zt15_8 (h : Nat) : ZB := [(0, [zf_ild 1, zf_if .lt 16, zf_ild 1, zf_ald 0, zf_getI 15 1, zf_ic2 .ge 16, zf_ic 1, zf_go 17], 16),
  (16, [zf_ic 0], 17),
  (17, [zf_retz], 18)]
theorem zT15_8 (h : Nat) : zTab h 15 8 2 (zt15_8 h) := zTab.mk (ret := (some .boolean)) (bl := xk15_8) (by decide +kernel) (by decide +kernel) rfl rfl
def zt15_9 (h : Nat) : ZB := [(0, [zf_ild 0, zf_if .lt 14, zf_ild 0, zf_ic 20, zf_ic2 .ge 14, zf_ic 1, zf_go 15], 14),
  (14, [zf_ic 0], 15),
  (15, [zf_retz], 16)]
theorem zT15_9 (h : Nat) : zTab h 15 9 1 (zt15_9 h) := zTab.mk (ret := (some .boolean)) (bl := xk15_9) (by decide +kernel) (by decide +kernel) rfl rfl
def zt15_10 (h : Nat) : ZB := [(0, [zf_ild 1, zf_if .lt 16, zf_ild 1, zf_ald 0, zf_getI 15 2, zf_ic2 .ge 16, zf_ic 1, zf_go 17], 16),
  (16, [zf_ic 0], 17),
  (17, [zf_retz], 18)]
theorem zT15_10 (h : Nat) : zTab h 15 10 2 (zt15_10 h) := zTab.mk (ret := (some .boolean)) (bl := xk15_10) (by decide +kernel) (by decide +kernel) rfl rfl
def zt15_11 (h : Nat) : ZB := [(0, [zf_ild 0, zf_if .lt 14, zf_ild 0, zf_ic 40, zf_ic2 .ge 14, zf_ic 1, zf_go 15], 14),
  (14, [zf_ic 0], 15),
  (15, [zf_retz], 16)]
theorem zT15_11 (h : Nat) : zTab h 15 11 1 (zt15_11 h) := zTab.mk (ret := (some .boolean)) (bl := xk15_11) (by decide +kernel) (by decide +kernel) rfl rfl
def zt15_12 (h : Nat) : ZB := [(0, [zf_lld 0, zf_lc (-100000), zf_lcmp, zf_if .lt 36, zf_lld 0, zf_lc 100000, zf_lcmp, zf_if .gt 36, zf_lld 2, zf_lc (-100000), zf_lcmp, zf_if .lt 36, zf_lld 2, zf_lc 100000, zf_lcmp, zf_if .gt 36, zf_ic 1, zf_go 37], 36),
  (36, [zf_ic 0], 37),
  (37, [zf_retz], 38)]
theorem zT15_12 (h : Nat) : zTab h 15 12 4 (zt15_12 h) := zTab.mk (ret := (some .boolean)) (bl := xk15_12) (by decide +kernel) (by decide +kernel) rfl rfl
def zt15_13 (h : Nat) : ZB := [(0, [zf_ild 0, zf_ild 0, zf_ic 1, zf_sub, zf_bit zand, zf_if .eq 12, zf_ic 1, zf_go 13], 12),
  (12, [zf_ic 0], 13),
  (13, [zf_retz], 14)]
theorem zT15_13 (h : Nat) : zTab h 15 13 1 (zt15_13 h) := zTab.mk (ret := (some .boolean)) (bl := xk15_13) (by decide +kernel) (by decide +kernel) rfl rfl
def zt15_14 (h : Nat) : ZB := [(0, [zf_lld 0, zf_lc 1, zf_lcmp, zf_if .lt 18, zf_lld 0, zf_lc 100000, zf_lcmp, zf_if .gt 18, zf_ic 1, zf_go 19], 18),
  (18, [zf_ic 0], 19),
  (19, [zf_retz], 20)]
theorem zT15_14 (h : Nat) : zTab h 15 14 2 (zt15_14 h) := zTab.mk (ret := (some .boolean)) (bl := xk15_14) (by decide +kernel) (by decide +kernel) rfl rfl
def zt15_15 (h : Nat) : ZB := [(0, [zf_ald 0, zf_ild 1, zf_inst h 15 9 1, zf_if .eq 21, zf_ild 3, zf_if .eq 17, zf_ild 3, zf_ic 1, zf_ic2 .ne 21], 17),
  (17, [zf_ic 0, zf_go 22], 21),
  (21, [zf_ic 1], 22),
  (22, [zf_putI 15 0, zf_ald 0, zf_getI 15 0, zf_if .eq 34, zf_ic 0, zf_reti], 34),
  (34, [zf_ald 0, zf_ild 1, zf_ild 2, zf_inv h 15 3 2, zf_if .ne 45, zf_ic (-1), zf_reti], 45),
  (45, [zf_ild 3, zf_if .ne 56, zf_ald 0, zf_getI 15 17, zf_go 60], 56),
  (56, [zf_ald 0, zf_getI 15 18], 60),
  (60, [zf_reti], 61)]
theorem zT15_15 (h : Nat) : zTab h 15 15 4 (zt15_15 h) := zTab.mk (ret := (some .int)) (bl := xk15_15) (by decide +kernel) (by decide +kernel) rfl rfl
def zt15_16 (h : Nat) : ZB := [(0, [zf_ald 0, zf_ald 0, zf_ild 1, zf_inv h 15 10 1, zf_if .eq 13, zf_ic 0, zf_go 14], 13),
  (13, [zf_ic 1], 14),
  (14, [zf_putI 15 0, zf_ald 0, zf_getI 15 0, zf_if .eq 26, zf_ic 0, zf_reti], 26),
  (26, [zf_ald 0, zf_inv h 15 5 0, zf_pop, zf_ald 0, zf_getR 15 14, zf_ild 1, zf_aldI 100, zf_reti], 38)]
theorem zT15_16 (h : Nat) : zTab h 15 16 2 (zt15_16 h) := zTab.mk (ret := (some .int)) (bl := xk15_16) (by decide +kernel) (by decide +kernel) rfl rfl
def zt15_17 (h : Nat) : ZB := [(0, [zf_ic 0, zf_ist 2, zf_ic 0, zf_ist 3], 4),
  (4, [zf_ild 3, zf_ald 0, zf_getI 15 2, zf_ic2 .ge 56, zf_ald 0, zf_getR 15 14, zf_ild 3, zf_aldI 100, zf_ild 1, zf_ic2 .ne 50, zf_ald 0, zf_getR 15 3, zf_ild 3, zf_aldB, zf_if .eq 50, zf_ald 0, zf_ild 3, zf_inv h 15 21 1, zf_ic (-1), zf_ic2 .eq 50, zf_ild 2, zf_ic 1, zf_ald 0, zf_ild 3, zf_inv h 15 21 1, zf_bit zshl, zf_bit zor, zf_ist 2], 50),
  (50, [zf_inc 3 1, zf_go 4], 56),
  (56, [zf_ild 2, zf_reti], 58)]
theorem zT15_17 (h : Nat) : zTab h 15 17 4 (zt15_17 h) := zTab.mk (ret := (some .int)) (bl := xk15_17) (by decide +kernel) (by decide +kernel) rfl rfl
def zt15_18 (h : Nat) : ZB := [(0, [zf_ic 0, zf_ist 2, zf_ic 0, zf_ist 3], 4),
  (4, [zf_ild 3, zf_ald 0, zf_getI 15 2, zf_ic2 .ge 216, zf_ic 0, zf_ist 4], 15),
  (15, [zf_ild 4, zf_ild 3, zf_ic2 .ge 210, zf_ald 0, zf_ild 4, zf_inv h 15 21 1, zf_ild 1, zf_ic2 .ne 204, zf_ald 0, zf_ild 3, zf_inv h 15 21 1, zf_ild 1, zf_ic2 .ne 204, zf_ald 0, zf_getR 15 15, zf_ild 4, zf_aldI 100, zf_ald 0, zf_getR 15 15, zf_ild 3, zf_aldI 100, zf_ic2 .ne 59, zf_go 204], 59),
  (59, [zf_ald 0, zf_getR 15 6, zf_ild 4, zf_aldL, zf_ald 0, zf_getR 15 6, zf_ild 3, zf_aldL, zf_lsub, zf_ald 0, zf_getR 15 6, zf_ild 4, zf_aldL, zf_ald 0, zf_getR 15 6, zf_ild 3, zf_aldL, zf_lsub, zf_lmul, zf_ald 0, zf_getR 15 7, zf_ild 4, zf_aldL, zf_ald 0, zf_getR 15 7, zf_ild 3, zf_aldL, zf_lsub, zf_ald 0, zf_getR 15 7, zf_ild 4, zf_aldL, zf_ald 0, zf_getR 15 7, zf_ild 3, zf_aldL, zf_lsub, zf_lmul, zf_ladd, zf_lst 5, zf_ild 2, zf_if .eq 170, zf_lld 5, zf_ald 0, zf_getL 15 16, zf_lcmp, zf_if .lt 170, zf_lld 5, zf_ald 0, zf_getL 15 16, zf_lcmp, zf_if .ne 174, zf_ild 4, zf_ald 0, zf_getI 15 17, zf_ic2 .lt 170, zf_ild 4, zf_ald 0, zf_getI 15 17, zf_ic2 .ne 174, zf_ild 3, zf_ald 0, zf_getI 15 18, zf_ic2 .ge 174], 170),
  (170, [zf_ic 1, zf_go 175], 174),
  (174, [zf_ic 0], 175),
  (175, [zf_ist 7, zf_ild 7, zf_if .ne 185, zf_go 204], 185),
  (185, [zf_ic 1, zf_ist 2, zf_ald 0, zf_lld 5, zf_putL 15 16, zf_ald 0, zf_ild 4, zf_putI 15 17, zf_ald 0, zf_ild 3, zf_putI 15 18], 204),
  (204, [zf_inc 4 1, zf_go 15], 210),
  (210, [zf_inc 3 1, zf_go 4], 216),
  (216, [zf_ild 2, zf_if .ne 222, zf_ic 0, zf_retz], 222),
  (222, [zf_ald 0, zf_getR 15 15, zf_ald 0, zf_getI 15 17, zf_aldI 100, zf_ist 3, zf_ald 0, zf_getR 15 15, zf_ald 0, zf_getI 15 18, zf_aldI 100, zf_ist 4, zf_ic 0, zf_ist 5], 246),
  (246, [zf_ild 5, zf_ald 0, zf_getI 15 2, zf_ic2 .ge 291, zf_ald 0, zf_getR 15 15, zf_ild 5, zf_ald 0, zf_getR 15 15, zf_ild 5, zf_aldI 100, zf_ild 4, zf_ic2 .ne 277, zf_ild 3, zf_go 284], 277),
  (277, [zf_ald 0, zf_getR 15 15, zf_ild 5, zf_aldI 100], 284),
  (284, [zf_astI, zf_inc 5 1, zf_go 246], 291),
  (291, [zf_ic 1, zf_retz], 293)]
theorem zT15_18 (h : Nat) : zTab h 15 18 8 (zt15_18 h) := zTab.mk (ret := (some .boolean)) (bl := xk15_18) (by decide +kernel) (by decide +kernel) rfl rfl
def zt15_19 (h : Nat) : ZB := [(0, [zf_ald 0, zf_ild 1, zf_inst h 15 9 1, zf_if .eq 12, zf_ic 0, zf_go 13], 12),
  (12, [zf_ic 1], 13),
  (13, [zf_putI 15 0, zf_ald 0, zf_getI 15 0, zf_if .ne 31, zf_ald 0, zf_ild 1, zf_inv h 15 1 1, zf_go 32], 31),
  (31, [zf_ic 0], 32),
  (32, [zf_reti], 33)]
theorem zT15_19 (h : Nat) : zTab h 15 19 2 (zt15_19 h) := zTab.mk (ret := (some .int)) (bl := xk15_19) (by decide +kernel) (by decide +kernel) rfl rfl
def zt15_20 (h : Nat) : ZB := [(0, [zf_ald 0, zf_ild 1, zf_inst h 15 11 1, zf_if .eq 16, zf_ald 0, zf_ild 2, zf_inv h 15 8 1, zf_if .ne 20], 16),
  (16, [zf_ic 1, zf_go 42], 20),
  (20, [zf_lld 3, zf_lld 5, zf_inst h 15 12 2, zf_if .eq 41, zf_lld 7, zf_inst h 15 14 1, zf_if .eq 41, zf_ic 0, zf_go 42], 41),
  (41, [zf_ic 2], 42),
  (42, [zf_putI 15 0, zf_ald 0, zf_getI 15 0, zf_if .ne 69, zf_ald 0, zf_ild 2, zf_ild 2, zf_lld 3, zf_lld 5, zf_lc 0, zf_lc 0, zf_lld 7, zf_ild 1, zf_inv h 15 0 8, zf_go 70], 69),
  (69, [zf_ic 0], 70),
  (70, [zf_reti], 71)]
theorem zT15_20 (h : Nat) : zTab h 15 20 9 (zt15_20 h) := zTab.mk (ret := (some .int)) (bl := xk15_20) (by decide +kernel) (by decide +kernel) rfl rfl
def zt15_21 (h : Nat) : ZB := [(0, [zf_ald 0, zf_getR 15 11, zf_ild 1, zf_aldI 100, zf_ic (-1), zf_ic2 .eq 19, zf_ald 0, zf_getR 15 3, zf_ild 1, zf_aldB, zf_if .ne 23], 19),
  (19, [zf_ic (-1), zf_go 34], 23),
  (23, [zf_ald 0, zf_getR 15 12, zf_ald 0, zf_getR 15 11, zf_ild 1, zf_aldI 100, zf_aldI 100], 34),
  (34, [zf_reti], 35)]
theorem zT15_21 (h : Nat) : zTab h 15 21 2 (zt15_21 h) := zTab.mk (ret := (some .int)) (bl := xk15_21) (by decide +kernel) (by decide +kernel) rfl rfl
def zt15_22 (h : Nat) : ZB := [(0, [zf_ald 0, zf_ild 1, zf_inst h 15 11 1, zf_if .ne 12, zf_ic 1, zf_go 29], 12),
  (12, [zf_ild 2, zf_ic (-1), zf_ic2 .eq 24, zf_ild 2, zf_inst h 15 9 1, zf_if .eq 28], 24),
  (24, [zf_ic 0, zf_go 29], 28),
  (28, [zf_ic 2], 29),
  (29, [zf_putI 15 0, zf_ald 0, zf_getI 15 0, zf_if .ne 49, zf_ald 0, zf_getR 15 12, zf_ild 1, zf_aldI 100, zf_ild 2, zf_ic2 .ne 51], 49),
  (49, [zf_ic 0, zf_retz], 51),
  (51, [zf_ald 0, zf_getR 15 12, zf_ild 1, zf_ild 2, zf_astI, zf_ic 1, zf_retz], 60)]
theorem zT15_22 (h : Nat) : zTab h 15 22 3 (zt15_22 h) := zTab.mk (ret := (some .boolean)) (bl := xk15_22) (by decide +kernel) (by decide +kernel) rfl rfl
def zt15_23 (h : Nat) : ZB := [(0, [zf_lld 2, zf_lld 4, zf_inst h 15 12 2, zf_if .eq 29, zf_lld 6, zf_inst h 15 14 1, zf_if .eq 29, zf_lld 8, zf_inst h 15 14 1, zf_if .eq 29, zf_ic 1, zf_go 30], 29),
  (29, [zf_ic 0], 30),
  (30, [zf_ist 10, zf_ald 0, zf_ald 0, zf_ild 1, zf_inv h 15 8 1, zf_if .ne 45, zf_ic 1, zf_go 55], 45),
  (45, [zf_ild 10, zf_if .eq 54, zf_ic 0, zf_go 55], 54),
  (54, [zf_ic 2], 55),
  (55, [zf_putI 15 0, zf_ald 0, zf_getI 15 0, zf_if .ne 83, zf_ald 0, zf_ild 1, zf_ild 1, zf_lld 2, zf_lld 4, zf_lld 6, zf_lld 8, zf_lc 0, zf_ic (-1), zf_inv h 15 0 8, zf_go 84], 83),
  (83, [zf_ic 0], 84),
  (84, [zf_reti], 85)]
theorem zT15_23 (h : Nat) : zTab h 15 23 11 (zt15_23 h) := zTab.mk (ret := (some .int)) (bl := xk15_23) (by decide +kernel) (by decide +kernel) rfl rfl
def zt15_24 (h : Nat) : ZB := [(0, [zf_ald 0, zf_ic 0, zf_putI 15 0, zf_ald 0, zf_inv h 15 2 0, zf_reti], 10)]
theorem zT15_24 (h : Nat) : zTab h 15 24 1 (zt15_24 h) := zTab.mk (ret := (some .int)) (bl := xk15_24) (by decide +kernel) (by decide +kernel) rfl rfl
def zt15_25 (h : Nat) : ZB := [(0, [zf_ald 0, zf_getI 15 0, zf_reti], 5)]
theorem zT15_25 (h : Nat) : zTab h 15 25 1 (zt15_25 h) := zTab.mk (ret := (some .int)) (bl := xk15_25) (by decide +kernel) (by decide +kernel) rfl rfl
def zt15_26 (h : Nat) : ZB := [(0, [zf_ald 0, zf_getR 15 3, zf_ild 1, zf_aldB, zf_if .eq 48, zf_ald 0, zf_getR 15 3, zf_ild 2, zf_aldB, zf_if .eq 48, zf_ald 0, zf_getR 15 4, zf_ild 1, zf_aldI 100, zf_ald 0, zf_getR 15 5, zf_ild 2, zf_aldI 100, zf_ic2 .gt 48, zf_ald 0, zf_getR 15 4, zf_ild 2, zf_aldI 100, zf_ald 0, zf_getR 15 5, zf_ild 1, zf_aldI 100, zf_ic2 .le 50], 48),
  (48, [zf_ic 0, zf_retz], 50),
  (50, [zf_ald 0, zf_getR 15 6, zf_ild 1, zf_aldL, zf_ald 0, zf_getR 15 6, zf_ild 1, zf_aldL, zf_ald 0, zf_getR 15 8, zf_ild 1, zf_aldL, zf_ladd, zf_ald 0, zf_getR 15 6, zf_ild 2, zf_aldL, zf_ald 0, zf_getR 15 6, zf_ild 2, zf_aldL, zf_ald 0, zf_getR 15 8, zf_ild 2, zf_aldL, zf_ladd, zf_inst h 15 6 4, zf_lst 3, zf_ald 0, zf_getR 15 7, zf_ild 1, zf_aldL, zf_ald 0, zf_getR 15 7, zf_ild 1, zf_aldL, zf_ald 0, zf_getR 15 9, zf_ild 1, zf_aldL, zf_ladd, zf_ald 0, zf_getR 15 7, zf_ild 2, zf_aldL, zf_ald 0, zf_getR 15 7, zf_ild 2, zf_aldL, zf_ald 0, zf_getR 15 9, zf_ild 2, zf_aldL, zf_ladd, zf_inst h 15 6 4, zf_lst 5, zf_ald 0, zf_getR 15 10, zf_ild 1, zf_aldL, zf_ald 0, zf_getR 15 10, zf_ild 2, zf_aldL, zf_ladd, zf_lst 7, zf_lld 3, zf_lld 3, zf_lmul, zf_lld 5, zf_lld 5, zf_lmul, zf_ladd, zf_lld 7, zf_lld 7, zf_lmul, zf_lcmp, zf_if .gt 172, zf_ic 1, zf_go 173], 172),
  (172, [zf_ic 0], 173),
  (173, [zf_retz], 174)]
theorem zT15_26 (h : Nat) : zTab h 15 26 9 (zt15_26 h) := zTab.mk (ret := (some .boolean)) (bl := xk15_26) (by decide +kernel) (by decide +kernel) rfl rfl
def zt15_27 (h : Nat) : ZB := [(0, [zf_ild 1, zf_ild 2, zf_ic2 .gt 26, zf_lld 3, zf_lld 5, zf_inst h 15 12 2, zf_if .eq 26, zf_lld 7, zf_inst h 15 14 1, zf_if .eq 26, zf_ic 1, zf_go 27], 26),
  (26, [zf_ic 0], 27),
  (27, [zf_ist 9, zf_ald 0, zf_ald 0, zf_ild 1, zf_inv h 15 8 1, zf_if .eq 46, zf_ald 0, zf_ild 2, zf_inv h 15 8 1, zf_if .ne 50], 46),
  (46, [zf_ic 1, zf_go 60], 50),
  (50, [zf_ild 9, zf_if .eq 59, zf_ic 0, zf_go 60], 59),
  (59, [zf_ic 2], 60),
  (60, [zf_putI 15 0, zf_ald 0, zf_getI 15 0, zf_if .ne 87, zf_ald 0, zf_ild 1, zf_ild 2, zf_lld 3, zf_lld 5, zf_lc 0, zf_lc 0, zf_lld 7, zf_ic (-1), zf_inv h 15 0 8, zf_go 88], 87),
  (87, [zf_ic 0], 88),
  (88, [zf_reti], 89)]
theorem zT15_27 (h : Nat) : zTab h 15 27 10 (zt15_27 h) := zTab.mk (ret := (some .int)) (bl := xk15_27) (by decide +kernel) (by decide +kernel) rfl rfl
def zt16_0 (h : Nat) : ZB := [(0, [zf_ic 60, zf_ild 1, zf_mul, zf_ald 0, zf_getR 16 4, zf_ild 1, zf_aldI 100, zf_add, zf_ist 14, zf_ald 0, zf_getR 16 5, zf_ild 14, zf_ild 2, zf_astI, zf_ald 0, zf_getR 16 6, zf_ild 14, zf_lld 3, zf_astL, zf_ald 0, zf_getR 16 7, zf_ild 14, zf_lld 5, zf_astL, zf_ald 0, zf_getR 16 8, zf_ild 14, zf_lld 7, zf_astL, zf_ald 0, zf_getR 16 9, zf_ild 14, zf_lld 9, zf_astL, zf_ald 0, zf_getR 16 10, zf_ild 14, zf_ild 11, zf_astI, zf_ald 0, zf_getR 16 11, zf_ild 14, zf_ild 12, zf_astI, zf_ald 0, zf_getR 16 12, zf_ild 14, zf_ild 13, zf_astB, zf_ald 0, zf_getR 16 4, zf_ild 1, zf_dup2, zf_aldI 100, zf_ic 1, zf_add, zf_astI, zf_ald 0, zf_getR 16 4, zf_ild 1, zf_aldI 100, zf_ic 1, zf_sub, zf_reti], 102)]
theorem zT16_0 (h : Nat) : zTab h 16 0 15 (zt16_0 h) := zTab.mk (ret := (some .int)) (bl := xk16_0) (by decide +kernel) (by decide +kernel) rfl rfl
def zt16_1 (h : Nat) : ZB := [(0, [zf_ald 0, zf_getR 16 2, zf_ic 10, zf_ild 1, zf_mul, zf_ald 0, zf_getR 16 1, zf_ild 1, zf_aldI 100, zf_add, zf_lld 2, zf_astL, zf_ald 0, zf_getR 16 3, zf_ic 10, zf_ild 1, zf_mul, zf_ald 0, zf_getR 16 1, zf_ild 1, zf_aldI 100, zf_add, zf_ild 4, zf_astB, zf_ald 0, zf_getR 16 1, zf_ild 1, zf_dup2, zf_aldI 100, zf_ic 1, zf_add, zf_astI, zf_ald 0, zf_getR 16 1, zf_ild 1, zf_aldI 100, zf_ic 1, zf_sub, zf_reti], 54)]
theorem zT16_1 (h : Nat) : zTab h 16 1 5 (zt16_1 h) := zTab.mk (ret := (some .int)) (bl := xk16_1) (by decide +kernel) (by decide +kernel) rfl rfl
def zt16_2 (h : Nat) : ZB := [(0, [zf_ald 0, zf_ild 1, zf_if .lt 29, zf_ild 1, zf_ald 0, zf_getR 16 4, zf_ic 0, zf_aldI 100, zf_ic2 .ge 29, zf_ild 2, zf_if .lt 29, zf_ild 2, zf_ic 8, zf_ic2 .ge 29, zf_ic 0, zf_go 30], 29),
  (29, [zf_ic 1], 30),
  (30, [zf_putI 16 0, zf_ald 0, zf_getI 16 0, zf_if .eq 42, zf_lc 0, zf_retl], 42),
  (42, [zf_ild 2, zf_sw 136 0 6 [84, 92, 99, 106, 113, 120, 128]], 84),
  (84, [zf_ald 0, zf_getR 16 5, zf_ild 1, zf_aldI 100, zf_i2l, zf_retl], 92),
  (92, [zf_ald 0, zf_getR 16 6, zf_ild 1, zf_aldL, zf_retl], 99),
  (99, [zf_ald 0, zf_getR 16 7, zf_ild 1, zf_aldL, zf_retl], 106),
  (106, [zf_ald 0, zf_getR 16 8, zf_ild 1, zf_aldL, zf_retl], 113),
  (113, [zf_ald 0, zf_getR 16 9, zf_ild 1, zf_aldL, zf_retl], 120),
  (120, [zf_ald 0, zf_getR 16 10, zf_ild 1, zf_aldI 100, zf_i2l, zf_retl], 128),
  (128, [zf_ald 0, zf_getR 16 11, zf_ild 1, zf_aldI 100, zf_i2l, zf_retl], 136),
  (136, [zf_ald 0, zf_getR 16 12, zf_ild 1, zf_aldB, zf_if .eq 149, zf_lc 1, zf_go 150], 149),
  (149, [zf_lc 0], 150),
  (150, [zf_retl], 151)]
theorem zT16_2 (h : Nat) : zTab h 16 2 3 (zt16_2 h) := zTab.mk (ret := (some .long)) (bl := xk16_2) (by decide +kernel) (by decide +kernel) rfl rfl
def zt16_3 (h : Nat) : ZB := [(0, [zf_ald 0, zf_ic 0, zf_putI 16 0, zf_ald 0, zf_getR 16 1, zf_ic 0, zf_ic 0, zf_astI, zf_ald 0, zf_getR 16 4, zf_ic 0, zf_ic 0, zf_astI, zf_ald 0, zf_ic 0, zf_putI 16 19, zf_ald 0, zf_ic 0, zf_putI 16 25, zf_ald 0, zf_ic 0, zf_putI 16 29, zf_ret], 35)]
theorem zT16_3 (h : Nat) : zTab h 16 3 1 (zt16_3 h) := zTab.mk (ret := none) (bl := xk16_3) (by decide +kernel) (by decide +kernel) rfl rfl
def zt16_4 (h : Nat) : ZB := [(0, [zf_ald 0, zf_ic 0, zf_putI 16 13, zf_ic 0, zf_ist 2], 7),
  (7, [zf_ild 2, zf_ald 0, zf_getR 16 4, zf_ic 0, zf_aldI 100, zf_ic2 .ge 56, zf_ald 0, zf_getR 16 5, zf_ild 2, zf_aldI 100, zf_ild 1, zf_ic2 .eq 30, zf_go 50], 30),
  (30, [zf_ald 0, zf_getR 16 14, zf_ald 0, zf_getI 16 13, zf_ild 2, zf_astI, zf_ald 0, zf_dup, zf_getI 16 13, zf_ic 1, zf_add, zf_putI 16 13], 50),
  (50, [zf_inc 2 1, zf_go 7], 56),
  (56, [zf_ret], 57)]
theorem zT16_4 (h : Nat) : zTab h 16 4 3 (zt16_4 h) := zTab.mk (ret := none) (bl := xk16_4) (by decide +kernel) (by decide +kernel) rfl rfl
def zt16_5 (h : Nat) : ZB := [(0, [zf_ald 0, zf_ic 10, zf_inv h 16 6 1, zf_ald 0, zf_getI 16 23, zf_ic (-1), zf_ic2 .ne 29, zf_ald 0, zf_getI 16 24, zf_if .ne 29, zf_ald 0, zf_ald 0, zf_getI 16 22, zf_putI 16 23], 29),
  (29, [zf_ald 0, zf_getI 16 23, zf_ic (-1), zf_ic2 .ne 41, zf_ic 1, zf_go 42], 41),
  (41, [zf_ic 0], 42),
  (42, [zf_retz], 43)]
theorem zT16_5 (h : Nat) : zTab h 16 5 1 (zt16_5 h) := zTab.mk (ret := (some .boolean)) (bl := xk16_5) (by decide +kernel) (by decide +kernel) rfl rfl
def zt16_6 (h : Nat) : ZB := [(0, [zf_ald 0, zf_getI 16 23, zf_ic (-1), zf_ic2 .eq 9, zf_ret], 9),
  (9, [zf_ald 0, zf_inv h 16 16 0, zf_ild 1, zf_ic2 .ne 30, zf_ald 0, zf_dup, zf_getI 16 21, zf_ic 1, zf_add, zf_putI 16 21, zf_go 38], 30),
  (30, [zf_ald 0, zf_ald 0, zf_getI 16 21, zf_putI 16 23], 38),
  (38, [zf_ret], 39)]
theorem zT16_6 (h : Nat) : zTab h 16 6 2 (zt16_6 h) := zTab.mk (ret := none) (bl := xk16_6) (by decide +kernel) (by decide +kernel) rfl rfl
def zt16_7 (h : Nat) : ZB := [(0, [zf_ald 0, zf_ild 1, zf_inv h 16 4 1, zf_ald 0, zf_getI 16 13, zf_ic 8, zf_ic2 .le 21, zf_ald 0, zf_inv h 16 20 0, zf_go 25], 21),
  (21, [zf_ald 0, zf_inv h 16 19 0], 25),
  (25, [zf_ret], 26)]
theorem zT16_7 (h : Nat) : zTab h 16 7 2 (zt16_7 h) := zTab.mk (ret := none) (bl := xk16_7) (by decide +kernel) (by decide +kernel) rfl rfl
def zt16_8 (h : Nat) : ZB := [(0, [zf_ald 0, zf_ald 0, zf_ild 1, zf_inv h 16 14 1, zf_if .eq 27, zf_ild 6, zf_i2l, zf_inst h 16 12 1, zf_if .eq 27, zf_ild 7, zf_i2l, zf_inst h 16 12 1, zf_if .ne 31], 27),
  (27, [zf_ic 1, zf_go 52], 31),
  (31, [zf_lld 2, zf_lld 4, zf_inst h 16 13 2, zf_if .eq 51, zf_ild 6, zf_ild 7, zf_ic2 .gt 51, zf_ic 0, zf_go 52], 51),
  (51, [zf_ic 2], 52),
  (52, [zf_putI 16 0, zf_ald 0, zf_getI 16 0, zf_if .eq 64, zf_ic 0, zf_reti], 64),
  (64, [zf_ald 0, zf_getR 16 4, zf_ic 0, zf_aldI 100, zf_ic 60, zf_ic2 .ne 79, zf_ic (-1), zf_go 96], 79),
  (79, [zf_ald 0, zf_ic 0, zf_ild 1, zf_lld 2, zf_lld 4, zf_lld 2, zf_lld 4, zf_ild 6, zf_ild 7, zf_ic 0, zf_inv h 16 0 9], 96),
  (96, [zf_reti], 97)]
theorem zT16_8 (h : Nat) : zTab h 16 8 8 (zt16_8 h) := zTab.mk (ret := (some .int)) (bl := xk16_8) (by decide +kernel) (by decide +kernel) rfl rfl
def zt16_9 (h : Nat) : ZB := [(0, [zf_ald 0, zf_ini, zf_ald 0, zf_ic 2, zf_newA 100, zf_putR 16 1, zf_ald 0, zf_ic 20, zf_newA 101, zf_putR 16 2, zf_ald 0, zf_ic 20, zf_newA 103, zf_putR 16 3, zf_ald 0, zf_ic 2, zf_newA 100, zf_putR 16 4, zf_ald 0, zf_ic 120, zf_newA 100, zf_putR 16 5, zf_ald 0, zf_ic 120, zf_newA 101, zf_putR 16 6, zf_ald 0, zf_ic 120, zf_newA 101, zf_putR 16 7, zf_ald 0, zf_ic 120, zf_newA 101, zf_putR 16 8, zf_ald 0, zf_ic 120, zf_newA 101, zf_putR 16 9, zf_ald 0, zf_ic 120, zf_newA 100, zf_putR 16 10, zf_ald 0, zf_ic 120, zf_newA 100, zf_putR 16 11, zf_ald 0, zf_ic 120, zf_newA 103, zf_putR 16 12, zf_ald 0, zf_ic 60, zf_newA 100, zf_putR 16 14, zf_ald 0, zf_ic 60, zf_newA 100, zf_putR 16 15, zf_ald 0, zf_ic 2048, zf_newA 101, zf_putR 16 16, zf_ald 0, zf_ic 3000, zf_newA 100, zf_putR 16 18, zf_ald 0, zf_ic 2000, zf_newA 100, zf_putR 16 20, zf_ald 0, zf_ic 8, zf_newA 100, zf_putR 16 26, zf_ald 0, zf_ic 8, zf_newA 100, zf_putR 16 27, zf_ald 0, zf_ic 2400, zf_newA 100, zf_putR 16 28, zf_ald 0, zf_ic 2600, zf_newA 100, zf_putR 16 30, zf_ret], 176)]
theorem zT16_9 (h : Nat) : zTab h 16 9 1 (zt16_9 h) := zTab.mk (ret := none) (bl := xk16_9) (by decide +kernel) (by decide +kernel) rfl rfl
def zt16_10 (h : Nat) : ZB := [(0, [zf_lld 0, zf_lc 1, zf_lcmp, zf_if .lt 18, zf_lld 0, zf_lc 10000, zf_lcmp, zf_if .gt 18, zf_ic 1, zf_go 19], 18),
  (18, [zf_ic 0], 19),
  (19, [zf_retz], 20)]
theorem zT16_10 (h : Nat) : zTab h 16 10 2 (zt16_10 h) := zTab.mk (ret := (some .boolean)) (bl := xk16_10) (by decide +kernel) (by decide +kernel) rfl rfl
def zt16_11 (h : Nat) : ZB := [(0, [zf_ald 0, zf_inv h 16 16 0, zf_ic 48, zf_ic2 .lt 22, zf_ald 0, zf_inv h 16 16 0, zf_ic 57, zf_ic2 .gt 22, zf_ic 1, zf_go 23], 22),
  (22, [zf_ic 0], 23),
  (23, [zf_retz], 24)]
theorem zT16_11 (h : Nat) : zTab h 16 11 1 (zt16_11 h) := zTab.mk (ret := (some .boolean)) (bl := xk16_11) (by decide +kernel) (by decide +kernel) rfl rfl
def zt16_12 (h : Nat) : ZB := [(0, [zf_lld 0, zf_lc 0, zf_lcmp, zf_if .lt 18, zf_lld 0, zf_lc 8, zf_lcmp, zf_if .ge 18, zf_ic 1, zf_go 19], 18),
  (18, [zf_ic 0], 19),
  (19, [zf_retz], 20)]
theorem zT16_12 (h : Nat) : zTab h 16 12 2 (zt16_12 h) := zTab.mk (ret := (some .boolean)) (bl := xk16_12) (by decide +kernel) (by decide +kernel) rfl rfl
def zt16_13 (h : Nat) : ZB := [(0, [zf_lld 0, zf_lc (-1000000), zf_lcmp, zf_if .lt 36, zf_lld 0, zf_lc 1000000, zf_lcmp, zf_if .gt 36, zf_lld 2, zf_lc (-1000000), zf_lcmp, zf_if .lt 36, zf_lld 2, zf_lc 1000000, zf_lcmp, zf_if .gt 36, zf_ic 1, zf_go 37], 36),
  (36, [zf_ic 0], 37),
  (37, [zf_retz], 38)]
theorem zT16_13 (h : Nat) : zTab h 16 13 4 (zt16_13 h) := zTab.mk (ret := (some .boolean)) (bl := xk16_13) (by decide +kernel) (by decide +kernel) rfl rfl
def zt16_14 (h : Nat) : ZB := [(0, [zf_ild 1, zf_if .lt 18, zf_ild 1, zf_ald 0, zf_getR 16 1, zf_ic 0, zf_aldI 100, zf_ic2 .ge 18, zf_ic 1, zf_go 19], 18),
  (18, [zf_ic 0], 19),
  (19, [zf_retz], 20)]
theorem zT16_14 (h : Nat) : zTab h 16 14 2 (zt16_14 h) := zTab.mk (ret := (some .boolean)) (bl := xk16_14) (by decide +kernel) (by decide +kernel) rfl rfl
def zt16_15 (h : Nat) : ZB := [(0, [zf_ald 0, zf_ald 0, zf_getI 16 24, zf_if .eq 16, zf_ild 1, zf_if .eq 16, zf_ic 1, zf_go 17], 16),
  (16, [zf_ic 0], 17),
  (17, [zf_putZ 16 24, zf_ret], 21)]
theorem zT16_15 (h : Nat) : zTab h 16 15 2 (zt16_15 h) := zTab.mk (ret := none) (bl := xk16_15) (by decide +kernel) (by decide +kernel) rfl rfl
def zt16_16 (h : Nat) : ZB := [(0, [zf_ald 0, zf_getI 16 21, zf_ald 0, zf_getI 16 19, zf_ic2 .ge 23, zf_ald 0, zf_getR 16 20, zf_ald 0, zf_getI 16 21, zf_aldI 100, zf_go 24], 23),
  (23, [zf_ic (-1)], 24),
  (24, [zf_reti], 25)]
theorem zT16_16 (h : Nat) : zTab h 16 16 1 (zt16_16 h) := zTab.mk (ret := (some .int)) (bl := xk16_16) (by decide +kernel) (by decide +kernel) rfl rfl
def zt16_17 (h : Nat) : ZB := [(0, [zf_ald 0, zf_inv h 16 16 0, zf_ic 45, zf_ic2 .ne 13, zf_ic 1, zf_go 14], 13),
  (13, [zf_ic 0], 14),
  (14, [zf_ist 1, zf_ild 1, zf_if .eq 37, zf_ald 0, zf_getI 16 23, zf_ic (-1), zf_ic2 .ne 37, zf_ald 0, zf_dup, zf_getI 16 21, zf_ic 1, zf_add, zf_putI 16 21], 37),
  (37, [zf_ald 0, zf_inv h 16 33 0, zf_lst 2, zf_ild 1, zf_if .eq 52, zf_lc 0, zf_lld 2, zf_lsub, zf_go 53], 52),
  (52, [zf_lld 2], 53),
  (53, [zf_retl], 54)]
theorem zT16_17 (h : Nat) : zTab h 16 17 4 (zt16_17 h) := zTab.mk (ret := (some .long)) (bl := xk16_17) (by decide +kernel) (by decide +kernel) rfl rfl
def zt16_18 (h : Nat) : ZB := [(0, [zf_ald 0, zf_ald 0, zf_ild 1, zf_inv h 16 14 1, zf_if .eq 13, zf_ic 0, zf_go 14], 13),
  (13, [zf_ic 1], 14),
  (14, [zf_putI 16 0, zf_ald 0, zf_getI 16 0, zf_if .eq 26, zf_ic 0, zf_reti], 26),
  (26, [zf_ald 0, zf_ild 1, zf_inv h 16 7 1, zf_ild 2, zf_if .lt 52, zf_ild 2, zf_ald 0, zf_getI 16 13, zf_ic2 .ge 52, zf_ald 0, zf_getR 16 15, zf_ild 2, zf_aldI 100, zf_go 53], 52),
  (52, [zf_ic (-1)], 53),
  (53, [zf_reti], 54)]
theorem zT16_18 (h : Nat) : zTab h 16 18 3 (zt16_18 h) := zTab.mk (ret := (some .int)) (bl := xk16_18) (by decide +kernel) (by decide +kernel) rfl rfl
def zt16_19 (h : Nat) : ZB := [(0, [zf_ic 1, zf_ald 0, zf_getI 16 13, zf_bit zshl, zf_ic 1, zf_sub, zf_ist 1, zf_ild 1, zf_ist 2], 11),
  (11, [zf_ild 2, zf_if .le 167, zf_ic 0, zf_ist 3], 17),
  (17, [zf_ild 3, zf_ald 0, zf_getI 16 13, zf_ic2 .ge 161, zf_ild 2, zf_ild 3, zf_bit zshr, zf_ic 1, zf_bit zand, zf_if .ne 36, zf_go 155], 36),
  (36, [zf_ild 2, zf_ild 1, zf_ic2 .ne 45, zf_lc 0, zf_go 48], 45),
  (45, [zf_lc (-1)], 48),
  (48, [zf_lst 4, zf_ic 0, zf_ist 6], 53),
  (53, [zf_ild 6, zf_ald 0, zf_getI 16 13, zf_ic2 .ge 142, zf_ild 2, zf_ild 6, zf_bit zshr, zf_ic 1, zf_bit zand, zf_ic 1, zf_ic2 .ne 75, zf_go 136], 75),
  (75, [zf_ald 0, zf_ald 0, zf_getR 16 14, zf_ild 3, zf_aldI 100, zf_ald 0, zf_getR 16 14, zf_ild 6, zf_aldI 100, zf_inv h 16 31 2, zf_ald 0, zf_getR 16 16, zf_ic 8, zf_ild 2, zf_ic 1, zf_ild 6, zf_bit zshl, zf_bit zor, zf_mul, zf_ild 6, zf_add, zf_aldL, zf_ladd, zf_lst 7, zf_lld 4, zf_lc 0, zf_lcmp, zf_if .lt 127, zf_lld 7, zf_lld 4, zf_lcmp, zf_if .ge 132], 127),
  (127, [zf_lld 7, zf_go 134], 132),
  (132, [zf_lld 4], 134),
  (134, [zf_lst 4], 136),
  (136, [zf_inc 6 1, zf_go 53], 142),
  (142, [zf_ald 0, zf_getR 16 16, zf_ic 8, zf_ild 2, zf_mul, zf_ild 3, zf_add, zf_lld 4, zf_astL], 155),
  (155, [zf_inc 3 1, zf_go 17], 161),
  (161, [zf_inc 2 (-1), zf_go 11], 167),
  (167, [zf_ic 0, zf_ist 2, zf_ic (-1), zf_ist 3, zf_ic 0, zf_ist 4], 174),
  (174, [zf_ild 4, zf_ald 0, zf_getI 16 13, zf_ic2 .ge 321, zf_ic (-1), zf_ist 5, zf_lc 0, zf_lst 6, zf_ic 0, zf_ist 8], 192),
  (192, [zf_ild 8, zf_ald 0, zf_getI 16 13, zf_ic2 .ge 291, zf_ild 2, zf_ild 8, zf_bit zshr, zf_ic 1, zf_bit zand, zf_ic 1, zf_ic2 .ne 214, zf_go 285], 214),
  (214, [zf_ald 0, zf_ild 3, zf_ic (-1), zf_ic2 .ne 224, zf_ic (-1), zf_go 230], 224),
  (224, [zf_ald 0, zf_getR 16 14, zf_ild 3, zf_aldI 100], 230),
  (230, [zf_ald 0, zf_getR 16 14, zf_ild 8, zf_aldI 100, zf_inv h 16 31 2, zf_ald 0, zf_getR 16 16, zf_ic 8, zf_ild 2, zf_ic 1, zf_ild 8, zf_bit zshl, zf_bit zor, zf_mul, zf_ild 8, zf_add, zf_aldL, zf_ladd, zf_lst 9, zf_ild 5, zf_ic (-1), zf_ic2 .eq 277, zf_lld 9, zf_lld 6, zf_lcmp, zf_if .lt 277, zf_go 285], 277),
  (277, [zf_ild 8, zf_ist 5, zf_lld 9, zf_lst 6], 285),
  (285, [zf_inc 8 1, zf_go 192], 291),
  (291, [zf_ald 0, zf_getR 16 15, zf_ild 4, zf_ald 0, zf_getR 16 14, zf_ild 5, zf_aldI 100, zf_astI, zf_ild 2, zf_ic 1, zf_ild 5, zf_bit zshl, zf_bit zor, zf_ist 2, zf_ild 5, zf_ist 3, zf_inc 4 1, zf_go 174], 321),
  (321, [zf_ret], 322)]
theorem zT16_19 (h : Nat) : zTab h 16 19 11 (zt16_19 h) := zTab.mk (ret := none) (bl := xk16_19) (by decide +kernel) (by decide +kernel) rfl rfl
def zt16_20 (h : Nat) : ZB := [(0, [zf_ic (-1), zf_ist 1, zf_ic 0, zf_ist 2], 4),
  (4, [zf_ild 2, zf_ald 0, zf_getI 16 13, zf_ic2 .ge 113, zf_ic (-1), zf_ist 3, zf_ic 0, zf_ist 4], 17),
  (17, [zf_ild 4, zf_ald 0, zf_getI 16 13, zf_ic2 .ge 81, zf_ald 0, zf_getR 16 14, zf_ild 4, zf_aldI 100, zf_ic (-1), zf_ic2 .ne 40, zf_go 75], 40),
  (40, [zf_ild 3, zf_ic (-1), zf_ic2 .eq 72, zf_ald 0, zf_ild 1, zf_ald 0, zf_getR 16 14, zf_ild 4, zf_aldI 100, zf_inv h 16 31 2, zf_ald 0, zf_ild 1, zf_ald 0, zf_getR 16 14, zf_ild 3, zf_aldI 100, zf_inv h 16 31 2, zf_lcmp, zf_if .ge 75], 72),
  (72, [zf_ild 4, zf_ist 3], 75),
  (75, [zf_inc 4 1, zf_go 17], 81),
  (81, [zf_ald 0, zf_getR 16 15, zf_ild 2, zf_ald 0, zf_getR 16 14, zf_ild 3, zf_aldI 100, zf_astI, zf_ald 0, zf_getR 16 14, zf_ild 3, zf_aldI 100, zf_ist 1, zf_ald 0, zf_getR 16 14, zf_ild 3, zf_ic (-1), zf_astI, zf_inc 2 1, zf_go 4], 113),
  (113, [zf_ret], 114)]
theorem zT16_20 (h : Nat) : zTab h 16 20 5 (zt16_20 h) := zTab.mk (ret := none) (bl := xk16_20) (by decide +kernel) (by decide +kernel) rfl rfl
def zt16_21 (h : Nat) : ZB := [(0, [zf_ald 0, zf_ic 0, zf_putI 16 0, zf_ald 0, zf_ic 0, zf_putI 16 21, zf_ald 0, zf_ic (-1), zf_putI 16 23, zf_ald 0, zf_ic 0, zf_putI 16 34, zf_ald 0, zf_ic 0, zf_putZ 16 35, zf_ald 0, zf_ic (-1), zf_putI 16 38, zf_ald 0, zf_getR 16 1, zf_ic 1, zf_ic 0, zf_astI, zf_ald 0, zf_getR 16 4, zf_ic 1, zf_ic 0, zf_astI], 44),
  (44, [zf_ald 0, zf_getI 16 23, zf_ic (-1), zf_ic2 .ne 70, zf_ald 0, zf_getI 16 21, zf_ald 0, zf_getI 16 19, zf_ic2 .ge 70, zf_ald 0, zf_inv h 16 25 0, zf_go 44], 70),
  (70, [zf_ald 0, zf_getI 16 23, zf_ic (-1), zf_ic2 .ne 94, zf_ald 0, zf_getI 16 34, zf_ic 3, zf_ic2 .ge 94, zf_ald 0, zf_ald 0, zf_getI 16 19, zf_putI 16 23], 94),
  (94, [zf_ald 0, zf_getI 16 23, zf_ic (-1), zf_ic2 .eq 109, zf_ic (-1), zf_ald 0, zf_getI 16 23, zf_sub, zf_reti], 109),
  (109, [zf_ald 0, zf_getR 16 1, zf_ic 0, zf_ald 0, zf_getR 16 1, zf_ic 1, zf_aldI 100, zf_astI, zf_ic 0, zf_ist 1], 123),
  (123, [zf_ild 1, zf_ic 10, zf_ic2 .ge 165, zf_ald 0, zf_getR 16 2, zf_ild 1, zf_ald 0, zf_getR 16 2, zf_ic 10, zf_ild 1, zf_add, zf_aldL, zf_astL, zf_ald 0, zf_getR 16 3, zf_ild 1, zf_ald 0, zf_getR 16 3, zf_ic 10, zf_ild 1, zf_add, zf_aldB, zf_astB, zf_inc 1 1, zf_go 123], 165),
  (165, [zf_ald 0, zf_getR 16 4, zf_ic 0, zf_ic 0, zf_astI, zf_ic 60, zf_ist 1], 175),
  (175, [zf_ild 1, zf_ic 60, zf_ald 0, zf_getR 16 4, zf_ic 1, zf_aldI 100, zf_add, zf_ic2 .ge 248, zf_ald 0, zf_ic 0, zf_ald 0, zf_getR 16 5, zf_ild 1, zf_aldI 100, zf_ald 0, zf_getR 16 6, zf_ild 1, zf_aldL, zf_ald 0, zf_getR 16 7, zf_ild 1, zf_aldL, zf_ald 0, zf_getR 16 8, zf_ild 1, zf_aldL, zf_ald 0, zf_getR 16 9, zf_ild 1, zf_aldL, zf_ald 0, zf_getR 16 10, zf_ild 1, zf_aldI 100, zf_ald 0, zf_getR 16 11, zf_ild 1, zf_aldI 100, zf_ald 0, zf_getR 16 12, zf_ild 1, zf_aldB, zf_inv h 16 0 9, zf_pop, zf_inc 1 1, zf_go 175], 248),
  (248, [zf_ald 0, zf_ic 0, zf_putI 16 19, zf_ald 0, zf_getR 16 4, zf_ic 0, zf_aldI 100, zf_reti], 260)]
theorem zT16_21 (h : Nat) : zTab h 16 21 2 (zt16_21 h) := zTab.mk (ret := (some .int)) (bl := xk16_21) (by decide +kernel) (by decide +kernel) rfl rfl
def zt16_22 (h : Nat) : ZB := [(0, [zf_ald 0, zf_inv h 16 16 0, zf_ist 1, zf_ild 1, zf_ic 76, zf_ic2 .ne 27, zf_ald 0, zf_getR 16 1, zf_ic 1, zf_aldI 100, zf_if .ne 27, zf_ald 0, zf_inv h 16 24 0, zf_go 93], 27),
  (27, [zf_ild 1, zf_ic 84, zf_ic2 .ne 47, zf_ald 0, zf_getI 16 35, zf_if .eq 47, zf_ald 0, zf_inv h 16 27 0, zf_go 93], 47),
  (47, [zf_ild 1, zf_ic 37, zf_ic2 .ne 85, zf_ald 0, zf_getI 16 35, zf_if .eq 85, zf_ald 0, zf_dup, zf_getI 16 21, zf_ic 1, zf_add, zf_putI 16 21, zf_ald 0, zf_inv h 16 5 0, zf_if .eq 93, zf_ald 0, zf_ic 2, zf_putI 16 34, zf_go 93], 85),
  (85, [zf_ald 0, zf_ald 0, zf_getI 16 21, zf_putI 16 23], 93),
  (93, [zf_ret], 94)]
theorem zT16_22 (h : Nat) : zTab h 16 22 2 (zt16_22 h) := zTab.mk (ret := none) (bl := xk16_22) (by decide +kernel) (by decide +kernel) rfl rfl
def zt16_23 (h : Nat) : ZB := [(0, [zf_ald 0, zf_dup, zf_getI 16 21, zf_ic 1, zf_add, zf_putI 16 21, zf_ald 0, zf_inv h 16 17 0, zf_lst 1, zf_ald 0, zf_ic 89, zf_inv h 16 6 1, zf_ald 0, zf_inv h 16 17 0, zf_lst 3, zf_ald 0, zf_getI 16 23, zf_ic (-1), zf_ic2 .ne 47, zf_ald 0, zf_inv h 16 16 0, zf_ic 71, zf_ic2 .ne 47, zf_ic 1, zf_go 48], 47),
  (47, [zf_ic 0], 48),
  (48, [zf_ist 5, zf_lld 1, zf_lst 6, zf_lld 3, zf_lst 8, zf_ild 5, zf_if .eq 130, zf_ald 0, zf_dup, zf_getI 16 21, zf_ic 1, zf_add, zf_putI 16 21, zf_ald 0, zf_ic 56, zf_inv h 16 6 1, zf_ald 0, zf_ic 53, zf_inv h 16 6 1, zf_ald 0, zf_ic 88, zf_inv h 16 6 1, zf_ald 0, zf_inv h 16 17 0, zf_lst 6, zf_ald 0, zf_ic 89, zf_inv h 16 6 1, zf_ald 0, zf_inv h 16 17 0, zf_lst 8, zf_ald 0, zf_lld 1, zf_lld 6, zf_lcmp, zf_if .ne 122, zf_lld 3, zf_lld 8, zf_lcmp, zf_if .eq 126], 122),
  (122, [zf_ic 1, zf_go 127], 126),
  (126, [zf_ic 0], 127),
  (127, [zf_inv h 16 15 1], 130),
  (130, [zf_ald 0, zf_lld 1, zf_lld 3, zf_inst h 16 13 2, zf_if .eq 164, zf_lld 6, zf_lld 8, zf_inst h 16 13 2, zf_if .eq 164, zf_ald 0, zf_getR 16 4, zf_ic 1, zf_aldI 100, zf_ic 60, zf_ic2 .ge 164, zf_ic 1, zf_go 165], 164),
  (164, [zf_ic 0], 165),
  (165, [zf_inv h 16 15 1, zf_ald 0, zf_inv h 16 5 0, zf_if .eq 220, zf_ald 0, zf_ic 1, zf_ald 0, zf_getI 16 38, zf_lld 1, zf_lld 3, zf_lld 6, zf_lld 8, zf_ild 5, zf_if .eq 196, zf_ic 0, zf_go 200], 196),
  (196, [zf_ald 0, zf_getI 16 36], 200),
  (200, [zf_ild 5, zf_if .eq 210, zf_ic 7, zf_go 214], 210),
  (210, [zf_ald 0, zf_getI 16 37], 214),
  (214, [zf_ild 5, zf_inv h 16 0 9, zf_pop], 220),
  (220, [zf_ret], 221)]
theorem zT16_23 (h : Nat) : zTab h 16 23 10 (zt16_23 h) := zTab.mk (ret := none) (bl := xk16_23) (by decide +kernel) (by decide +kernel) rfl rfl
def zt16_24 (h : Nat) : ZB := [(0, [zf_ald 0, zf_dup, zf_getI 16 21, zf_ic 1, zf_add, zf_putI 16 21, zf_ald 0, zf_inv h 16 33 0, zf_lst 1, zf_ald 0, zf_ic 44, zf_inv h 16 6 1, zf_ald 0, zf_inv h 16 33 0, zf_lst 3, zf_ald 0, zf_lld 1, zf_inst h 16 12 1, zf_if .eq 51, zf_lld 3, zf_inst h 16 12 1, zf_if .eq 51, zf_lld 1, zf_lld 3, zf_lcmp, zf_if .gt 51, zf_ic 1, zf_go 52], 51),
  (51, [zf_ic 0], 52),
  (52, [zf_inv h 16 15 1, zf_ald 0, zf_inv h 16 5 0, zf_if .ne 63, zf_ret], 63),
  (63, [zf_ald 0, zf_ic 1, zf_putZ 16 35, zf_ald 0, zf_lld 1, zf_l2i, zf_putI 16 36, zf_ald 0, zf_lld 3, zf_l2i, zf_putI 16 37, zf_ret], 81)]
theorem zT16_24 (h : Nat) : zTab h 16 24 5 (zt16_24 h) := zTab.mk (ret := none) (bl := xk16_24) (by decide +kernel) (by decide +kernel) rfl rfl
def zt16_25 (h : Nat) : ZB := [(0, [zf_ald 0, zf_ald 0, zf_getI 16 21, zf_putI 16 22, zf_ald 0, zf_ic 1, zf_putZ 16 24, zf_ald 0, zf_getI 16 34, zf_if .ne 53, zf_ald 0, zf_ic 77, zf_inv h 16 6 1, zf_ald 0, zf_ic 52, zf_inv h 16 6 1, zf_ald 0, zf_ic 56, zf_inv h 16 6 1, zf_ald 0, zf_inv h 16 5 0, zf_if .eq 91, zf_ald 0, zf_ic 1, zf_putI 16 34, zf_go 91], 53),
  (53, [zf_ald 0, zf_getI 16 34, zf_ic 1, zf_ic2 .ne 68, zf_ald 0, zf_inv h 16 22 0, zf_go 91], 68),
  (68, [zf_ald 0, zf_getI 16 34, zf_ic 2, zf_ic2 .ne 83, zf_ald 0, zf_inv h 16 26 0, zf_go 91], 83),
  (83, [zf_ald 0, zf_ald 0, zf_getI 16 21, zf_putI 16 23], 91),
  (91, [zf_ret], 92)]
theorem zT16_25 (h : Nat) : zTab h 16 25 1 (zt16_25 h) := zTab.mk (ret := none) (bl := xk16_25) (by decide +kernel) (by decide +kernel) rfl rfl
def zt16_26 (h : Nat) : ZB := [(0, [zf_ald 0, zf_inv h 16 16 0, zf_ist 1, zf_ild 1, zf_ic 84, zf_ic2 .ne 63, zf_ald 0, zf_dup, zf_getI 16 21, zf_ic 1, zf_add, zf_putI 16 21, zf_ald 0, zf_inv h 16 33 0, zf_lst 2, zf_ald 0, zf_lld 2, zf_ald 0, zf_getR 16 1, zf_ic 1, zf_aldI 100, zf_i2l, zf_lcmp, zf_if .ge 43, zf_ic 1, zf_go 44], 43),
  (43, [zf_ic 0], 44),
  (44, [zf_inv h 16 15 1, zf_ald 0, zf_inv h 16 5 0, zf_if .eq 60, zf_ald 0, zf_lld 2, zf_l2i, zf_putI 16 38], 60),
  (60, [zf_go 114], 63),
  (63, [zf_ild 1, zf_ic 88, zf_ic2 .ne 84, zf_ald 0, zf_getI 16 38, zf_ic (-1), zf_ic2 .eq 84, zf_ald 0, zf_inv h 16 23 0, zf_go 114], 84),
  (84, [zf_ald 0, zf_ic 77, zf_inv h 16 6 1, zf_ald 0, zf_ic 51, zf_inv h 16 6 1, zf_ald 0, zf_ic 48, zf_inv h 16 6 1, zf_ald 0, zf_inv h 16 5 0, zf_if .eq 114, zf_ald 0, zf_ic 3, zf_putI 16 34], 114),
  (114, [zf_ret], 115)]
theorem zT16_26 (h : Nat) : zTab h 16 26 4 (zt16_26 h) := zTab.mk (ret := none) (bl := xk16_26) (by decide +kernel) (by decide +kernel) rfl rfl
def zt16_27 (h : Nat) : ZB := [(0, [zf_ald 0, zf_dup, zf_getI 16 21, zf_ic 1, zf_add, zf_putI 16 21, zf_ald 0, zf_inv h 16 33 0, zf_lst 1, zf_ald 0, zf_ic 67, zf_inv h 16 6 1, zf_ald 0, zf_inv h 16 33 0, zf_lst 3, zf_ald 0, zf_inv h 16 16 0, zf_ic 80, zf_ic2 .ne 39, zf_ic 1, zf_go 40], 39),
  (39, [zf_ic 0], 40),
  (40, [zf_ist 5, zf_ald 0, zf_getI 16 23, zf_ic (-1), zf_ic2 .ne 77, zf_ild 5, zf_if .ne 64, zf_ald 0, zf_inv h 16 16 0, zf_ic 78, zf_ic2 .ne 77], 64),
  (64, [zf_ald 0, zf_dup, zf_getI 16 21, zf_ic 1, zf_add, zf_putI 16 21, zf_go 93], 77),
  (77, [zf_ald 0, zf_getI 16 23, zf_ic (-1), zf_ic2 .ne 93, zf_ald 0, zf_ald 0, zf_getI 16 21, zf_putI 16 23], 93),
  (93, [zf_ald 0, zf_lld 1, zf_ald 0, zf_getR 16 1, zf_ic 1, zf_aldI 100, zf_i2l, zf_lcmp, zf_if .ne 125, zf_lld 1, zf_lc 10, zf_lcmp, zf_if .ge 125, zf_lld 3, zf_inst h 16 10 1, zf_if .eq 125, zf_ic 1, zf_go 126], 125),
  (125, [zf_ic 0], 126),
  (126, [zf_inv h 16 15 1, zf_ald 0, zf_inv h 16 5 0, zf_if .eq 145, zf_ald 0, zf_ic 1, zf_lld 3, zf_ild 5, zf_inv h 16 1 3, zf_pop], 145),
  (145, [zf_ret], 146)]
theorem zT16_27 (h : Nat) : zTab h 16 27 6 (zt16_27 h) := zTab.mk (ret := none) (bl := xk16_27) (by decide +kernel) (by decide +kernel) rfl rfl
def zt16_28 (h : Nat) : ZB := [(0, [zf_lld 0, zf_lc 0, zf_lcmp, zf_if .ge 12, zf_lc 0, zf_lld 0, zf_lsub, zf_go 13], 12),
  (12, [zf_lld 0], 13),
  (13, [zf_retl], 14)]
theorem zT16_28 (h : Nat) : zTab h 16 28 2 (zt16_28 h) := zTab.mk (ret := (some .long)) (bl := xk16_28) (by decide +kernel) (by decide +kernel) rfl rfl
def zt16_29 (h : Nat) : ZB := [(0, [zf_ald 0, zf_lld 1, zf_inst h 16 10 1, zf_if .eq 12, zf_ic 0, zf_go 13], 12),
  (12, [zf_ic 1], 13),
  (13, [zf_putI 16 0, zf_ald 0, zf_getI 16 0, zf_if .eq 25, zf_ic 0, zf_reti], 25),
  (25, [zf_ald 0, zf_getR 16 1, zf_ic 0, zf_aldI 100, zf_ic 10, zf_ic2 .ne 40, zf_ic (-1), zf_go 47], 40),
  (40, [zf_ald 0, zf_ic 0, zf_lld 1, zf_ild 3, zf_inv h 16 1 3], 47),
  (47, [zf_reti], 48)]
theorem zT16_29 (h : Nat) : zTab h 16 29 4 (zt16_29 h) := zTab.mk (ret := (some .int)) (bl := xk16_29) (by decide +kernel) (by decide +kernel) rfl rfl
def zt16_30 (h : Nat) : ZB := [(0, [zf_ald 0, zf_ic 0, zf_putI 16 0, zf_ild 1, zf_ic 10, zf_ic2 .eq 23, zf_ild 1, zf_ic 32, zf_ic2 .lt 33, zf_ild 1, zf_ic 126, zf_ic2 .gt 33], 23),
  (23, [zf_ald 0, zf_getI 16 19, zf_ic 2000, zf_ic2 .ne 35], 33),
  (33, [zf_ic 0, zf_retz], 35),
  (35, [zf_ald 0, zf_getR 16 20, zf_ald 0, zf_getI 16 19, zf_ild 1, zf_astI, zf_ald 0, zf_dup, zf_getI 16 19, zf_ic 1, zf_add, zf_putI 16 19, zf_ic 1, zf_retz], 57)]
theorem zT16_30 (h : Nat) : zTab h 16 30 2 (zt16_30 h) := zTab.mk (ret := (some .boolean)) (bl := xk16_30) (by decide +kernel) (by decide +kernel) rfl rfl
def zt16_31 (h : Nat) : ZB := [(0, [zf_ild 1, zf_ic (-1), zf_ic2 .ne 25, zf_lc 0, zf_lc 0, zf_ald 0, zf_getR 16 6, zf_ild 2, zf_aldL, zf_ald 0, zf_getR 16 7, zf_ild 2, zf_aldL, zf_inst h 16 32 4, zf_go 52], 25),
  (25, [zf_ald 0, zf_getR 16 8, zf_ild 1, zf_aldL, zf_ald 0, zf_getR 16 9, zf_ild 1, zf_aldL, zf_ald 0, zf_getR 16 6, zf_ild 2, zf_aldL, zf_ald 0, zf_getR 16 7, zf_ild 2, zf_aldL, zf_inst h 16 32 4], 52),
  (52, [zf_retl], 53)]
theorem zT16_31 (h : Nat) : zTab h 16 31 3 (zt16_31 h) := zTab.mk (ret := (some .long)) (bl := xk16_31) (by decide +kernel) (by decide +kernel) rfl rfl
def zt16_32 (h : Nat) : ZB := [(0, [zf_lld 0, zf_lld 4, zf_lsub, zf_inst h 16 28 1, zf_lst 8, zf_lld 2, zf_lld 6, zf_lsub, zf_inst h 16 28 1, zf_lst 10, zf_lld 8, zf_lld 10, zf_lcmp, zf_if .le 31, zf_lld 8, zf_go 33], 31),
  (31, [zf_lld 10], 33),
  (33, [zf_retl], 34)]
theorem zT16_32 (h : Nat) : zTab h 16 32 12 (zt16_32 h) := zTab.mk (ret := (some .long)) (bl := xk16_32) (by decide +kernel) (by decide +kernel) rfl rfl
def zt16_33 (h : Nat) : ZB := [(0, [zf_lc 0, zf_lst 1, zf_ic 0, zf_ist 3], 4),
  (4, [zf_ald 0, zf_getI 16 23, zf_ic (-1), zf_ic2 .ne 57, zf_ild 3, zf_ic 7, zf_ic2 .ge 57, zf_ald 0, zf_inv h 16 11 0, zf_if .eq 57, zf_lc 10, zf_lld 1, zf_lmul, zf_ald 0, zf_inv h 16 16 0, zf_i2l, zf_ladd, zf_lc 48, zf_lsub, zf_lst 1, zf_inc 3 1, zf_ald 0, zf_dup, zf_getI 16 21, zf_ic 1, zf_add, zf_putI 16 21, zf_go 4], 57),
  (57, [zf_ald 0, zf_getI 16 23, zf_ic (-1), zf_ic2 .ne 84, zf_ild 3, zf_if .eq 76, zf_ald 0, zf_inv h 16 11 0, zf_if .eq 84], 76),
  (76, [zf_ald 0, zf_ald 0, zf_getI 16 21, zf_putI 16 23], 84),
  (84, [zf_lld 1, zf_retl], 86)]
theorem zT16_33 (h : Nat) : zTab h 16 33 4 (zt16_33 h) := zTab.mk (ret := (some .long)) (bl := xk16_33) (by decide +kernel) (by decide +kernel) rfl rfl
def zt17_0 (h : Nat) : ZB := [(0, [zf_ic 0, zf_ist 4], 3),
  (3, [zf_ild 4, zf_ic 6, zf_ic2 .ge 79, zf_ald 0, zf_ild 2, zf_ild 4, zf_inv h 17 19 2, zf_ist 5, zf_ild 5, zf_ic (-1), zf_ic2 .eq 73, zf_ald 0, zf_getR 17 22, zf_ild 5, zf_aldL, zf_lc 0, zf_lcmp, zf_if .lt 73, zf_ald 0, zf_getR 17 22, zf_ild 5, zf_aldL, zf_ald 0, zf_ild 1, zf_ild 5, zf_ald 0, zf_ild 4, zf_inv h 17 24 1, zf_ild 2, zf_ild 3, zf_inv h 17 31 5, zf_ladd, zf_ald 0, zf_getR 17 22, zf_ild 2, zf_aldL, zf_lcmp, zf_if .ne 73, zf_ild 5, zf_reti], 73),
  (73, [zf_inc 4 1, zf_go 3], 79),
  (79, [zf_ic (-1), zf_reti], 81)]
theorem zT17_0 (h : Nat) : zTab h 17 0 6 (zt17_0 h) := zTab.mk (ret := (some .int)) (bl := xk17_0) (by decide +kernel) (by decide +kernel) rfl rfl
def zt17_1 (h : Nat) : ZB := [(0, [zf_ald 0, zf_ild 1, zf_ild 2, zf_ild 3, zf_inv h 17 4 3, zf_ist 4, zf_ald 0, zf_ild 4, zf_ic (-1), zf_ic2 .ne 20, zf_ic 1, zf_go 21], 20),
  (20, [zf_ic 0], 21),
  (21, [zf_putI 17 0, zf_ald 0, zf_getI 17 0, zf_if .ne 52, zf_ald 0, zf_getR 17 10, zf_ild 4, zf_aldB, zf_if .ne 52, zf_ald 0, zf_getR 17 8, zf_ild 4, zf_aldI 100, zf_ic (-1), zf_ic2 .eq 54], 52),
  (52, [zf_ic 0, zf_retz], 54),
  (54, [zf_ald 0, zf_getR 17 10, zf_ild 4, zf_ic 1, zf_astB, zf_ic 1, zf_retz], 64)]
theorem zT17_1 (h : Nat) : zTab h 17 1 5 (zt17_1 h) := zTab.mk (ret := (some .boolean)) (bl := xk17_1) (by decide +kernel) (by decide +kernel) rfl rfl
def zt17_2 (h : Nat) : ZB := [(0, [zf_ald 0, zf_ald 0, zf_ild 1, zf_inv h 17 13 1, zf_if .eq 13, zf_ic 0, zf_go 14], 13),
  (13, [zf_ic 1], 14),
  (14, [zf_putI 17 0, zf_ald 0, zf_getI 17 0, zf_if .eq 26, zf_ic 0, zf_reti], 26),
  (26, [zf_ild 2, zf_ist 3, zf_ic 0, zf_ist 4], 31),
  (31, [zf_ild 4, zf_ald 0, zf_getI 17 5, zf_ic2 .ge 77, zf_ild 2, zf_if .lt 77, zf_ald 0, zf_getR 17 20, zf_ild 1, zf_aldI 100, zf_ild 4, zf_bit zshr, zf_ic 1, zf_bit zand, zf_if .ne 61, zf_go 71], 61),
  (61, [zf_ild 3, zf_if .ne 68, zf_ild 4, zf_reti], 68),
  (68, [zf_inc 3 (-1)], 71),
  (71, [zf_inc 4 1, zf_go 31], 77),
  (77, [zf_ic (-1), zf_reti], 79)]
theorem zT17_2 (h : Nat) : zTab h 17 2 5 (zt17_2 h) := zTab.mk (ret := (some .int)) (bl := xk17_2) (by decide +kernel) (by decide +kernel) rfl rfl
def zt17_3 (h : Nat) : ZB := [(0, [zf_ild 2, zf_ic (-1), zf_ic2 .eq 14, zf_ald 0, zf_getR 17 10, zf_ild 2, zf_aldB, zf_if .eq 16], 14),
  (14, [zf_ic 0, zf_retz], 16),
  (16, [zf_ald 0, zf_getR 17 8, zf_ild 2, zf_aldI 100, zf_ic (-1), zf_ic2 .eq 40, zf_ald 0, zf_getR 17 8, zf_ild 2, zf_aldI 100, zf_ild 1, zf_ic2 .eq 40, zf_ic 1, zf_go 41], 40),
  (40, [zf_ic 0], 41),
  (41, [zf_ist 4, zf_ild 4, zf_if .eq 61, zf_ild 3, zf_if .eq 65, zf_ald 0, zf_getR 17 9, zf_ild 2, zf_aldB, zf_if .ne 65], 61),
  (61, [zf_ic 1, zf_go 66], 65),
  (65, [zf_ic 0], 66),
  (66, [zf_retz], 67)]
theorem zT17_3 (h : Nat) : zTab h 17 3 5 (zt17_3 h) := zTab.mk (ret := (some .boolean)) (bl := xk17_3) (by decide +kernel) (by decide +kernel) rfl rfl
def zt17_4 (h : Nat) : ZB := [(0, [zf_ild 1, zf_if .lt 40, zf_ild 1, zf_ald 0, zf_getI 17 3, zf_ic2 .ge 40, zf_ild 2, zf_if .lt 40, zf_ild 2, zf_ald 0, zf_getI 17 1, zf_ic2 .ge 40, zf_ild 3, zf_if .lt 40, zf_ild 3, zf_ald 0, zf_getI 17 2, zf_ic2 .ge 40, zf_ic 1, zf_go 41], 40),
  (40, [zf_ic 0], 41),
  (41, [zf_ist 4, zf_ild 4, zf_if .eq 66, zf_ild 1, zf_ald 0, zf_getI 17 2, zf_mul, zf_ild 3, zf_add, zf_ald 0, zf_getI 17 1, zf_mul, zf_ild 2, zf_add, zf_go 67], 66),
  (66, [zf_ic (-1)], 67),
  (67, [zf_reti], 68)]
theorem zT17_4 (h : Nat) : zTab h 17 4 5 (zt17_4 h) := zTab.mk (ret := (some .int)) (bl := xk17_4) (by decide +kernel) (by decide +kernel) rfl rfl
def zt17_5 (h : Nat) : ZB := [(0, [zf_ald 0, zf_getR 17 23, zf_ild 2, zf_ic 1, zf_astB, zf_ald 0, zf_getR 17 17, zf_ic 1024, zf_ild 1, zf_mul, zf_ald 0, zf_getR 17 16, zf_ild 1, zf_aldI 100, zf_add, zf_ild 2, zf_astI, zf_ald 0, zf_getR 17 16, zf_ild 1, zf_dup2, zf_aldI 100, zf_ic 1, zf_add, zf_astI, zf_ret], 36)]
theorem zT17_5 (h : Nat) : zTab h 17 5 3 (zt17_5 h) := zTab.mk (ret := none) (bl := xk17_5) (by decide +kernel) (by decide +kernel) rfl rfl
def zt17_6 (h : Nat) : ZB := [(0, [zf_ald 0, zf_ild 1, zf_if .lt 13, zf_ild 1, zf_ald 0, zf_getI 17 3, zf_ic2 .lt 17], 13),
  (13, [zf_ic 1, zf_go 44], 17),
  (17, [zf_ild 2, zf_inst h 17 12 1, zf_if .eq 43, zf_ild 3, zf_inst h 17 12 1, zf_if .eq 43, zf_ild 4, zf_inst h 17 12 1, zf_if .eq 43, zf_ic 0, zf_go 44], 43),
  (43, [zf_ic 2], 44),
  (44, [zf_putI 17 0, zf_ald 0, zf_getI 17 0, zf_if .eq 56, zf_ic 0, zf_retz], 56),
  (56, [zf_ald 0, zf_getR 17 12, zf_ild 1, zf_aldI 100, zf_ild 2, zf_ic2 .ne 87, zf_ald 0, zf_getR 17 13, zf_ild 1, zf_aldI 100, zf_ild 3, zf_ic2 .ne 87, zf_ald 0, zf_getR 17 14, zf_ild 1, zf_aldI 100, zf_ild 4, zf_ic2 .eq 91], 87),
  (87, [zf_ic 1, zf_go 92], 91),
  (91, [zf_ic 0], 92),
  (92, [zf_ist 5, zf_ald 0, zf_getR 17 12, zf_ild 1, zf_ild 2, zf_astI, zf_ald 0, zf_getR 17 13, zf_ild 1, zf_ild 3, zf_astI, zf_ald 0, zf_getR 17 14, zf_ild 1, zf_ild 4, zf_astI, zf_ild 5, zf_retz], 119)]
theorem zT17_6 (h : Nat) : zTab h 17 6 6 (zt17_6 h) := zTab.mk (ret := (some .boolean)) (bl := xk17_6) (by decide +kernel) (by decide +kernel) rfl rfl
def zt17_7 (h : Nat) : ZB := [(0, [zf_ald 0, zf_ald 0, zf_ild 1, zf_inv h 17 13 1, zf_if .eq 13, zf_ic 0, zf_go 14], 13),
  (13, [zf_ic 1], 14),
  (14, [zf_putI 17 0, zf_ald 0, zf_getI 17 0, zf_if .eq 28, zf_lc 0, zf_go 49], 28),
  (28, [zf_ald 0, zf_getR 17 15, zf_ild 1, zf_aldB, zf_if .eq 46, zf_ald 0, zf_getR 17 18, zf_ild 1, zf_aldL, zf_go 49], 46),
  (46, [zf_lc (-1)], 49),
  (49, [zf_retl], 50)]
theorem zT17_7 (h : Nat) : zTab h 17 7 2 (zt17_7 h) := zTab.mk (ret := (some .long)) (bl := xk17_7) (by decide +kernel) (by decide +kernel) rfl rfl
def zt17_8 (h : Nat) : ZB := [(0, [zf_ald 0, zf_ald 0, zf_getL 17 4, zf_lc 6364136223846793005, zf_lmul, zf_lc 1442695040888963407, zf_ladd, zf_putL 17 4, zf_ald 0, zf_getL 17 4, zf_ic 33, zf_lsh zlushr, zf_retl], 24)]
theorem zT17_8 (h : Nat) : zTab h 17 8 1 (zt17_8 h) := zTab.mk (ret := (some .long)) (bl := xk17_8) (by decide +kernel) (by decide +kernel) rfl rfl
def zt17_9 (h : Nat) : ZB := [(0, [zf_ald 0, zf_getI 17 1, zf_ald 0, zf_getI 17 2, zf_mul, zf_ald 0, zf_getI 17 3, zf_mul, zf_ist 2, zf_ald 0, zf_getR 17 20, zf_ild 1, zf_ic 0, zf_astI, zf_ic 0, zf_ist 3], 24),
  (24, [zf_ild 3, zf_ild 2, zf_ic2 .ge 121, zf_ic 0, zf_ist 4], 32),
  (32, [zf_ild 4, zf_ic 6, zf_ic2 .ge 115, zf_ald 0, zf_getR 17 22, zf_ild 3, zf_aldL, zf_lc 0, zf_lcmp, zf_if .lt 115, zf_ald 0, zf_ild 3, zf_ild 4, zf_inv h 17 19 2, zf_ist 5, zf_ild 5, zf_ic (-1), zf_ic2 .eq 109, zf_ald 0, zf_getR 17 8, zf_ild 5, zf_aldI 100, zf_ic (-1), zf_ic2 .eq 109, zf_ald 0, zf_getR 17 8, zf_ild 5, zf_aldI 100, zf_ild 1, zf_ic2 .eq 109, zf_ald 0, zf_getR 17 20, zf_ild 1, zf_ald 0, zf_getR 17 20, zf_ild 1, zf_aldI 100, zf_ic 1, zf_ald 0, zf_getR 17 8, zf_ild 5, zf_aldI 100, zf_bit zshl, zf_bit zor, zf_astI], 109),
  (109, [zf_inc 4 1, zf_go 32], 115),
  (115, [zf_inc 3 1, zf_go 24], 121),
  (121, [zf_ret], 122)]
theorem zT17_9 (h : Nat) : zTab h 17 9 6 (zt17_9 h) := zTab.mk (ret := none) (bl := xk17_9) (by decide +kernel) (by decide +kernel) rfl rfl
def zt17_10 (h : Nat) : ZB := [(0, [zf_ic 1, zf_ist 2, zf_ic 5, zf_ild 1, zf_mul, zf_ist 3], 6),
  (6, [zf_ild 3, zf_ic 5, zf_ild 1, zf_mul, zf_ald 0, zf_getR 17 6, zf_ild 1, zf_aldI 100, zf_add, zf_ic2 .ge 50, zf_ild 2, zf_if .eq 42, zf_ald 0, zf_getR 17 23, zf_ald 0, zf_getR 17 7, zf_ild 3, zf_aldI 100, zf_aldB, zf_if .eq 42, zf_ic 1, zf_go 43], 42),
  (42, [zf_ic 0], 43),
  (43, [zf_ist 2, zf_inc 3 1, zf_go 6], 50),
  (50, [zf_ild 2, zf_retz], 52)]
theorem zT17_10 (h : Nat) : zTab h 17 10 4 (zt17_10 h) := zTab.mk (ret := (some .boolean)) (bl := xk17_10) (by decide +kernel) (by decide +kernel) rfl rfl
def zt17_11 (h : Nat) : ZB := [(0, [zf_ald 0, zf_ini, zf_ald 0, zf_ic 12, zf_newA 100, zf_putR 17 6, zf_ald 0, zf_ic 60, zf_newA 100, zf_putR 17 7, zf_ald 0, zf_ic 1024, zf_newA 100, zf_putR 17 8, zf_ald 0, zf_ic 1024, zf_newA 103, zf_putR 17 9, zf_ald 0, zf_ic 1024, zf_newA 103, zf_putR 17 10, zf_ald 0, zf_ic 1024, zf_newA 101, zf_putR 17 11, zf_ald 0, zf_ic 4, zf_newA 100, zf_putR 17 12, zf_ald 0, zf_ic 4, zf_newA 100, zf_putR 17 13, zf_ald 0, zf_ic 4, zf_newA 100, zf_putR 17 14, zf_ald 0, zf_ic 12, zf_newA 103, zf_putR 17 15, zf_ald 0, zf_ic 12, zf_newA 100, zf_putR 17 16, zf_ald 0, zf_ic 12288, zf_newA 100, zf_putR 17 17, zf_ald 0, zf_ic 12, zf_newA 101, zf_putR 17 18, zf_ald 0, zf_ic 12, zf_newA 100, zf_putR 17 19, zf_ald 0, zf_ic 12, zf_newA 100, zf_putR 17 20, zf_ald 0, zf_ic 1024, zf_newA 101, zf_putR 17 22, zf_ald 0, zf_ic 1024, zf_newA 103, zf_putR 17 23, zf_ald 0, zf_ic 12, zf_newA 100, zf_putR 17 24, zf_ald 0, zf_ild 1, zf_ic 1, zf_ic2 .ge 162, zf_ic 1, zf_go 174], 162),
  (162, [zf_ild 1, zf_ic 16, zf_ic2 .le 173, zf_ic 16, zf_go 174], 173),
  (173, [zf_ild 1], 174),
  (174, [zf_putI 17 1, zf_ald 0, zf_ild 2, zf_ic 1, zf_ic2 .ge 187, zf_ic 1, zf_go 199], 187),
  (187, [zf_ild 2, zf_ic 16, zf_ic2 .le 198, zf_ic 16, zf_go 199], 198),
  (198, [zf_ild 2], 199),
  (199, [zf_putI 17 2, zf_ald 0, zf_ild 3, zf_ic 1, zf_ic2 .ge 212, zf_ic 1, zf_go 222], 212),
  (212, [zf_ild 3, zf_ic 4, zf_ic2 .le 221, zf_ic 4, zf_go 222], 221),
  (221, [zf_ild 3], 222),
  (222, [zf_putI 17 3, zf_ald 0, zf_lld 4, zf_putL 17 4, zf_ic 0, zf_ist 6], 234),
  (234, [zf_ild 6, zf_ic 1024, zf_ic2 .ge 256, zf_ald 0, zf_getR 17 8, zf_ild 6, zf_ic (-1), zf_astI, zf_inc 6 1, zf_go 234], 256),
  (256, [zf_ret], 257)]
theorem zT17_11 (h : Nat) : zTab h 17 11 7 (zt17_11 h) := zTab.mk (ret := none) (bl := xk17_11) (by decide +kernel) (by decide +kernel) rfl rfl
def zt17_12 (h : Nat) : ZB := [(0, [zf_ild 0, zf_if .lt 14, zf_ild 0, zf_ic 50, zf_ic2 .gt 14, zf_ic 1, zf_go 15], 14),
  (14, [zf_ic 0], 15),
  (15, [zf_retz], 16)]
theorem zT17_12 (h : Nat) : zTab h 17 12 1 (zt17_12 h) := zTab.mk (ret := (some .boolean)) (bl := xk17_12) (by decide +kernel) (by decide +kernel) rfl rfl
def zt17_13 (h : Nat) : ZB := [(0, [zf_ild 1, zf_if .lt 16, zf_ild 1, zf_ald 0, zf_getI 17 5, zf_ic2 .ge 16, zf_ic 1, zf_go 17], 16),
  (16, [zf_ic 0], 17),
  (17, [zf_retz], 18)]
theorem zT17_13 (h : Nat) : zTab h 17 13 2 (zt17_13 h) := zTab.mk (ret := (some .boolean)) (bl := xk17_13) (by decide +kernel) (by decide +kernel) rfl rfl
def zt17_14 (h : Nat) : ZB := [(0, [zf_ald 0, zf_getR 17 6, zf_ild 1, zf_aldI 100, zf_if .le 22, zf_ald 0, zf_getR 17 15, zf_ild 1, zf_aldB, zf_if .ne 22, zf_ic 1, zf_go 23], 22),
  (22, [zf_ic 0], 23),
  (23, [zf_retz], 24)]
theorem zT17_14 (h : Nat) : zTab h 17 14 2 (zt17_14 h) := zTab.mk (ret := (some .boolean)) (bl := xk17_14) (by decide +kernel) (by decide +kernel) rfl rfl
def zt17_15 (h : Nat) : ZB := [(0, [zf_ald 0, zf_getR 17 18, zf_ild 1, zf_dup2, zf_aldL, zf_ald 0, zf_getR 17 22, zf_ild 2, zf_aldL, zf_ladd, zf_astL, zf_ald 0, zf_getR 17 16, zf_ild 1, zf_aldI 100, zf_ist 4, zf_ild 2, zf_ist 5], 26),
  (26, [zf_ald 0, zf_getR 17 23, zf_ild 5, zf_aldB, zf_if .ne 60, zf_ald 0, zf_ild 1, zf_ild 5, zf_ild 3, zf_inv h 17 0 3, zf_ist 6, zf_ald 0, zf_ild 1, zf_ild 5, zf_inv h 17 5 2, zf_ild 6, zf_ist 5, zf_go 26], 60),
  (60, [zf_ic 0, zf_ist 6, zf_ild 4, zf_ist 7], 67),
  (67, [zf_ild 7, zf_ald 0, zf_getR 17 16, zf_ild 1, zf_aldI 100, zf_ic2 .ge 149, zf_ald 0, zf_getR 17 17, zf_ic 1024, zf_ild 1, zf_mul, zf_ild 7, zf_add, zf_aldI 100, zf_ist 8, zf_ald 0, zf_getR 17 8, zf_ild 8, zf_aldI 100, zf_ic (-1), zf_ic2 .eq 143, zf_ald 0, zf_getR 17 8, zf_ild 8, zf_aldI 100, zf_ild 1, zf_ic2 .ne 118, zf_go 143], 118),
  (118, [zf_ild 6, zf_ic 1, zf_ald 0, zf_getR 17 8, zf_ild 8, zf_aldI 100, zf_bit zshl, zf_bit zor, zf_ist 6, zf_ald 0, zf_getR 17 11, zf_ild 8, zf_dup2, zf_aldL, zf_lc 1, zf_ladd, zf_astL], 143),
  (143, [zf_inc 7 1, zf_go 67], 149),
  (149, [zf_ic 0, zf_ist 7], 152),
  (152, [zf_ild 7, zf_ald 0, zf_getI 17 5, zf_ic2 .ge 197, zf_ild 6, zf_ild 7, zf_bit zshr, zf_ic 1, zf_bit zand, zf_if .ne 174, zf_go 191], 174),
  (174, [zf_ald 0, zf_ild 7, zf_inv h 17 18 1, zf_ald 0, zf_getR 17 19, zf_ild 7, zf_dup2, zf_aldI 100, zf_ic 1, zf_add, zf_astI], 191),
  (191, [zf_inc 7 1, zf_go 152], 197),
  (197, [zf_ild 4, zf_ist 7], 201),
  (201, [zf_ild 7, zf_ald 0, zf_getR 17 16, zf_ild 1, zf_aldI 100, zf_ic2 .ge 237, zf_ald 0, zf_getR 17 8, zf_ald 0, zf_getR 17 17, zf_ic 1024, zf_ild 1, zf_mul, zf_ild 7, zf_add, zf_aldI 100, zf_ild 1, zf_astI, zf_inc 7 1, zf_go 201], 237),
  (237, [zf_ret], 238)]
theorem zT17_15 (h : Nat) : zTab h 17 15 9 (zt17_15 h) := zTab.mk (ret := none) (bl := xk17_15) (by decide +kernel) (by decide +kernel) rfl rfl
def zt17_16 (h : Nat) : ZB := [(0, [zf_ild 1, zf_ald 0, zf_getI 17 1, zf_ald 0, zf_getI 17 2, zf_mul, zf_div, zf_reti], 12)]
theorem zT17_16 (h : Nat) : zTab h 17 16 2 (zt17_16 h) := zTab.mk (ret := (some .int)) (bl := xk17_16) (by decide +kernel) (by decide +kernel) rfl rfl
def zt17_17 (h : Nat) : ZB := [(0, [zf_ald 0, zf_getR 17 20, zf_ild 1, zf_ic 0, zf_astI, zf_ald 0, zf_getR 17 18, zf_ild 1, zf_lc 0, zf_astL, zf_ald 0, zf_getR 17 16, zf_ild 1, zf_ic 0, zf_astI, zf_ic 0, zf_ist 2], 23),
  (23, [zf_ild 2, zf_ic 1024, zf_ic2 .ge 43, zf_ald 0, zf_getR 17 23, zf_ild 2, zf_ic 0, zf_astB, zf_inc 2 1, zf_go 23], 43),
  (43, [zf_ald 0, zf_ild 1, zf_ald 0, zf_getR 17 7, zf_ic 5, zf_ild 1, zf_mul, zf_aldI 100, zf_inv h 17 5 2], 56),
  (56, [zf_ald 0, zf_ild 1, zf_inv h 17 10 1, zf_if .ne 136, zf_ald 0, zf_ild 1, zf_ic 0, zf_inv h 17 30 2, zf_ald 0, zf_ild 1, zf_inv h 17 21 1, zf_ist 2, zf_ild 2, zf_ic (-1), zf_ic2 .ne 85, zf_ic 1, zf_go 86], 85),
  (85, [zf_ic 0], 86),
  (86, [zf_ist 3, zf_ild 3, zf_if .eq 126, zf_ald 0, zf_ild 1, zf_inv h 17 9 1, zf_ald 0, zf_ild 1, zf_ic 1, zf_inv h 17 30 2, zf_ald 0, zf_ild 1, zf_inv h 17 21 1, zf_ist 2, zf_ild 2, zf_ic (-1), zf_ic2 .ne 119, zf_ald 0, zf_ild 1, zf_inv h 17 18 1, zf_ret], 119),
  (119, [zf_ald 0, zf_getR 17 20, zf_ild 1, zf_ic 0, zf_astI], 126),
  (126, [zf_ald 0, zf_ild 1, zf_ild 2, zf_ild 3, zf_inv h 17 15 3, zf_go 56], 136),
  (136, [zf_ald 0, zf_getR 17 15, zf_ild 1, zf_ic 1, zf_astB, zf_ret], 144)]
theorem zT17_17 (h : Nat) : zTab h 17 17 4 (zt17_17 h) := zTab.mk (ret := none) (bl := xk17_17) (by decide +kernel) (by decide +kernel) rfl rfl
def zt17_18 (h : Nat) : ZB := [(0, [zf_ic 0, zf_ist 2], 2),
  (2, [zf_ild 2, zf_ic 1024, zf_ic2 .ge 50, zf_ald 0, zf_getR 17 8, zf_ild 2, zf_ald 0, zf_getR 17 8, zf_ild 2, zf_aldI 100, zf_ild 1, zf_ic2 .ne 37, zf_ald 0, zf_getR 17 9, zf_ild 2, zf_aldB, zf_if .ne 37, zf_ic (-1), zf_go 43], 37),
  (37, [zf_ald 0, zf_getR 17 8, zf_ild 2, zf_aldI 100], 43),
  (43, [zf_astI, zf_inc 2 1, zf_go 2], 50),
  (50, [zf_ald 0, zf_getR 17 15, zf_ild 1, zf_ic 0, zf_astB, zf_ald 0, zf_getR 17 16, zf_ild 1, zf_ic 0, zf_astI, zf_ret], 65)]
theorem zT17_18 (h : Nat) : zTab h 17 18 3 (zt17_18 h) := zTab.mk (ret := none) (bl := xk17_18) (by decide +kernel) (by decide +kernel) rfl rfl
def zt17_19 (h : Nat) : ZB := [(0, [zf_ald 0, zf_ild 1, zf_inv h 17 16 1, zf_ist 3, zf_ild 1, zf_ald 0, zf_getI 17 1, zf_rem, zf_ist 4, zf_ald 0, zf_ild 1, zf_inv h 17 28 1, zf_ist 5, zf_ild 2, zf_sw 116 0 4 [56, 68, 80, 92, 104]], 56),
  (56, [zf_ald 0, zf_ild 3, zf_ic 1, zf_sub, zf_ild 4, zf_ild 5, zf_inv h 17 4 3, zf_reti], 68),
  (68, [zf_ald 0, zf_ild 3, zf_ild 4, zf_ild 5, zf_ic 1, zf_sub, zf_inv h 17 4 3, zf_reti], 80),
  (80, [zf_ald 0, zf_ild 3, zf_ild 4, zf_ic 1, zf_sub, zf_ild 5, zf_inv h 17 4 3, zf_reti], 92),
  (92, [zf_ald 0, zf_ild 3, zf_ild 4, zf_ic 1, zf_add, zf_ild 5, zf_inv h 17 4 3, zf_reti], 104),
  (104, [zf_ald 0, zf_ild 3, zf_ild 4, zf_ild 5, zf_ic 1, zf_add, zf_inv h 17 4 3, zf_reti], 116),
  (116, [zf_ald 0, zf_ild 3, zf_ic 1, zf_add, zf_ild 4, zf_ild 5, zf_inv h 17 4 3, zf_reti], 128)]
theorem zT17_19 (h : Nat) : zTab h 17 19 6 (zt17_19 h) := zTab.mk (ret := (some .int)) (bl := xk17_19) (by decide +kernel) (by decide +kernel) rfl rfl
def zt17_20 (h : Nat) : ZB := [(0, [zf_ald 0, zf_ic 0, zf_putI 17 0, zf_ald 0, zf_getI 17 5, zf_ic 12, zf_ic2 .ne 16, zf_ic (-1), zf_reti], 16),
  (16, [zf_ald 0, zf_dup, zf_getI 17 5, zf_ic 1, zf_add, zf_putI 17 5, zf_ald 0, zf_getI 17 5, zf_ic 1, zf_sub, zf_reti], 33)]
theorem zT17_20 (h : Nat) : zTab h 17 20 1 (zt17_20 h) := zTab.mk (ret := (some .int)) (bl := xk17_20) (by decide +kernel) (by decide +kernel) rfl rfl
def zt17_21 (h : Nat) : ZB := [(0, [zf_ic (-1), zf_ist 2, zf_ic 5, zf_ild 1, zf_mul, zf_ist 3], 6),
  (6, [zf_ild 3, zf_ic 5, zf_ild 1, zf_mul, zf_ald 0, zf_getR 17 6, zf_ild 1, zf_aldI 100, zf_add, zf_ic2 .ge 88, zf_ald 0, zf_getR 17 7, zf_ild 3, zf_aldI 100, zf_ist 4, zf_ald 0, zf_getR 17 23, zf_ild 4, zf_aldB, zf_if .ne 82, zf_ald 0, zf_getR 17 22, zf_ild 4, zf_aldL, zf_lc 0, zf_lcmp, zf_if .ge 53, zf_go 82], 53),
  (53, [zf_ild 2, zf_ic (-1), zf_ic2 .eq 75, zf_ald 0, zf_getR 17 22, zf_ild 4, zf_aldL, zf_ald 0, zf_getR 17 22, zf_ild 2, zf_aldL, zf_lcmp, zf_if .ge 80], 75),
  (75, [zf_ild 4, zf_go 81], 80),
  (80, [zf_ild 2], 81),
  (81, [zf_ist 2], 82),
  (82, [zf_inc 3 1, zf_go 6], 88),
  (88, [zf_ild 2, zf_reti], 90)]
theorem zT17_21 (h : Nat) : zTab h 17 21 5 (zt17_21 h) := zTab.mk (ret := (some .int)) (bl := xk17_21) (by decide +kernel) (by decide +kernel) rfl rfl
def zt17_22 (h : Nat) : ZB := [(0, [zf_ald 0, zf_ic 0, zf_putI 17 0, zf_ild 1, zf_ist 2, zf_ic 0, zf_ist 3], 9),
  (9, [zf_ild 3, zf_ald 0, zf_getI 17 5, zf_ic2 .ge 47, zf_ild 1, zf_if .lt 47, zf_ald 0, zf_ild 3, zf_inv h 17 14 1, zf_if .ne 32, zf_go 41], 32),
  (32, [zf_ild 2, zf_if .ne 38, zf_ild 3, zf_reti], 38),
  (38, [zf_inc 2 (-1)], 41),
  (41, [zf_inc 3 1, zf_go 9], 47),
  (47, [zf_ic (-1), zf_reti], 49)]
theorem zT17_22 (h : Nat) : zTab h 17 22 4 (zt17_22 h) := zTab.mk (ret := (some .int)) (bl := xk17_22) (by decide +kernel) (by decide +kernel) rfl rfl
def zt17_23 (h : Nat) : ZB := [(0, [zf_ic 0, zf_ist 1, zf_ic 0, zf_ist 2], 4),
  (4, [zf_ild 2, zf_ald 0, zf_getI 17 5, zf_ic2 .ge 34, zf_ild 1, zf_ald 0, zf_ild 2, zf_inv h 17 14 1, zf_if .eq 25, zf_ic 1, zf_go 26], 25),
  (25, [zf_ic 0], 26),
  (26, [zf_add, zf_ist 1, zf_inc 2 1, zf_go 4], 34),
  (34, [zf_ild 1, zf_reti], 36)]
theorem zT17_23 (h : Nat) : zTab h 17 23 3 (zt17_23 h) := zTab.mk (ret := (some .int)) (bl := xk17_23) (by decide +kernel) (by decide +kernel) rfl rfl
def zt17_24 (h : Nat) : ZB := [(0, [zf_ic 5, zf_ild 1, zf_sub, zf_reti], 4)]
theorem zT17_24 (h : Nat) : zTab h 17 24 2 (zt17_24 h) := zTab.mk (ret := (some .int)) (bl := xk17_24) (by decide +kernel) (by decide +kernel) rfl rfl
def zt17_25 (h : Nat) : ZB := [(0, [zf_ald 0, zf_ild 1, zf_inv h 17 13 1, zf_if .eq 44, zf_ald 0, zf_getR 17 15, zf_ild 1, zf_aldB, zf_if .eq 44, zf_ild 2, zf_if .lt 44, zf_ild 2, zf_ald 0, zf_getR 17 16, zf_ild 1, zf_aldI 100, zf_ic2 .ge 44, zf_ild 3, zf_if .lt 44, zf_ild 3, zf_ic 3, zf_ic2 .ge 44, zf_ic 1, zf_go 45], 44),
  (44, [zf_ic 0], 45),
  (45, [zf_ist 4, zf_ald 0, zf_ild 4, zf_if .eq 57, zf_ic 0, zf_go 58], 57),
  (57, [zf_ic 1], 58),
  (58, [zf_putI 17 0, zf_ald 0, zf_getI 17 0, zf_if .eq 70, zf_ic 0, zf_reti], 70),
  (70, [zf_ald 0, zf_getR 17 17, zf_ic 1024, zf_ild 1, zf_mul, zf_ild 2, zf_add, zf_aldI 100, zf_ist 5, zf_ild 3, zf_if .ne 97, zf_ald 0, zf_ild 5, zf_inv h 17 16 1, zf_go 118], 97),
  (97, [zf_ild 3, zf_ic 1, zf_ic2 .ne 112, zf_ild 5, zf_ald 0, zf_getI 17 1, zf_rem, zf_go 118], 112),
  (112, [zf_ald 0, zf_ild 5, zf_inv h 17 28 1], 118),
  (118, [zf_reti], 119)]
theorem zT17_25 (h : Nat) : zTab h 17 25 6 (zt17_25 h) := zTab.mk (ret := (some .int)) (bl := xk17_25) (by decide +kernel) (by decide +kernel) rfl rfl
def zt17_26 (h : Nat) : ZB := [(0, [zf_ald 0, zf_ild 2, zf_ild 3, zf_ild 4, zf_inv h 17 4 3, zf_ist 5, zf_ald 0, zf_ald 0, zf_ild 1, zf_inv h 17 13 1, zf_if .eq 29, zf_ild 5, zf_ic (-1), zf_ic2 .eq 29, zf_ic 0, zf_go 30], 29),
  (29, [zf_ic 1], 30),
  (30, [zf_putI 17 0, zf_ald 0, zf_getI 17 0, zf_if .eq 42, zf_ic 0, zf_retz], 42),
  (42, [zf_ald 0, zf_getR 17 9, zf_ild 5, zf_aldB, zf_if .eq 67, zf_ald 0, zf_getR 17 8, zf_ild 5, zf_aldI 100, zf_ild 1, zf_ic2 .ne 67, zf_ic 1, zf_go 68], 67),
  (67, [zf_ic 0], 68),
  (68, [zf_ist 6, zf_ald 0, zf_getR 17 10, zf_ild 5, zf_aldB, zf_if .ne 117, zf_ild 6, zf_if .ne 117, zf_ald 0, zf_getR 17 8, zf_ild 5, zf_aldI 100, zf_ic (-1), zf_ic2 .eq 107, zf_ald 0, zf_getR 17 8, zf_ild 5, zf_aldI 100, zf_ild 1, zf_ic2 .ne 117], 107),
  (107, [zf_ald 0, zf_getR 17 6, zf_ild 1, zf_aldI 100, zf_ic 5, zf_ic2 .ne 119], 117),
  (117, [zf_ic 0, zf_retz], 119),
  (119, [zf_ald 0, zf_ild 1, zf_inv h 17 18 1, zf_ald 0, zf_getR 17 7, zf_ic 5, zf_ild 1, zf_mul, zf_ald 0, zf_getR 17 6, zf_ild 1, zf_aldI 100, zf_add, zf_ild 5, zf_astI, zf_ald 0, zf_getR 17 6, zf_ild 1, zf_dup2, zf_aldI 100, zf_ic 1, zf_add, zf_astI, zf_ald 0, zf_getR 17 8, zf_ild 5, zf_ild 1, zf_astI, zf_ald 0, zf_getR 17 9, zf_ild 5, zf_ic 1, zf_astB, zf_ic 1, zf_retz], 169)]
theorem zT17_26 (h : Nat) : zTab h 17 26 7 (zt17_26 h) := zTab.mk (ret := (some .boolean)) (bl := xk17_26) (by decide +kernel) (by decide +kernel) rfl rfl
def zt17_27 (h : Nat) : ZB := [(0, [zf_ald 0, zf_ald 0, zf_ild 1, zf_inv h 17 13 1, zf_if .eq 13, zf_ic 0, zf_go 14], 13),
  (13, [zf_ic 1], 14),
  (14, [zf_putI 17 0, zf_ald 0, zf_getI 17 0, zf_if .ne 33, zf_ald 0, zf_getR 17 19, zf_ild 1, zf_aldI 100, zf_go 34], 33),
  (33, [zf_ic 0], 34),
  (34, [zf_reti], 35)]
theorem zT17_27 (h : Nat) : zTab h 17 27 2 (zt17_27 h) := zTab.mk (ret := (some .int)) (bl := xk17_27) (by decide +kernel) (by decide +kernel) rfl rfl
def zt17_28 (h : Nat) : ZB := [(0, [zf_ild 1, zf_ald 0, zf_getI 17 1, zf_div, zf_ald 0, zf_getI 17 2, zf_rem, zf_reti], 12)]
theorem zT17_28 (h : Nat) : zTab h 17 28 2 (zt17_28 h) := zTab.mk (ret := (some .int)) (bl := xk17_28) (by decide +kernel) (by decide +kernel) rfl rfl
def zt17_29 (h : Nat) : ZB := [(0, [zf_ald 0, zf_ild 1, zf_ic 1, zf_ic2 .lt 16, zf_ild 1, zf_ic 20, zf_ic2 .gt 16, zf_ic 0, zf_go 17], 16),
  (16, [zf_ic 1], 17),
  (17, [zf_putI 17 0, zf_ald 0, zf_getI 17 0, zf_if .eq 29, zf_ic 0, zf_reti], 29),
  (29, [zf_ic 0, zf_ist 2], 31),
  (31, [zf_ild 2, zf_ild 1, zf_ic2 .ge 53, zf_ald 0, zf_inv h 17 23 0, zf_if .le 53, zf_ald 0, zf_inv h 17 33 0, zf_inc 2 1, zf_go 31], 53),
  (53, [zf_ald 0, zf_inv h 17 23 0, zf_reti], 58)]
theorem zT17_29 (h : Nat) : zTab h 17 29 3 (zt17_29 h) := zTab.mk (ret := (some .int)) (bl := xk17_29) (by decide +kernel) (by decide +kernel) rfl rfl
def zt17_30 (h : Nat) : ZB := [(0, [zf_ald 0, zf_getI 17 1, zf_ald 0, zf_getI 17 2, zf_mul, zf_ald 0, zf_getI 17 3, zf_mul, zf_ist 3, zf_ic 0, zf_ist 4], 18),
  (18, [zf_ild 4, zf_ild 3, zf_ic2 .ge 54, zf_ald 0, zf_getR 17 22, zf_ild 4, zf_ald 0, zf_getR 17 23, zf_ild 4, zf_aldB, zf_if .eq 44, zf_lc 0, zf_go 47], 44),
  (44, [zf_lc (-1)], 47),
  (47, [zf_astL, zf_inc 4 1, zf_go 18], 54),
  (54, [zf_ic 1, zf_ist 4], 57),
  (57, [zf_ild 4, zf_if .eq 197, zf_ic 0, zf_ist 4, zf_ic 0, zf_ist 5], 68),
  (68, [zf_ild 5, zf_ild 3, zf_ic2 .ge 194, zf_ic 0, zf_ist 6], 77),
  (77, [zf_ild 6, zf_ic 6, zf_ic2 .ge 188, zf_ald 0, zf_getR 17 22, zf_ild 5, zf_aldL, zf_lc 0, zf_lcmp, zf_if .lt 188, zf_ald 0, zf_ild 5, zf_ild 6, zf_inv h 17 19 2, zf_ist 7, zf_ald 0, zf_ild 1, zf_ild 7, zf_ild 2, zf_inv h 17 3 3, zf_if .ne 120, zf_go 182], 120),
  (120, [zf_ald 0, zf_getR 17 22, zf_ild 5, zf_aldL, zf_ald 0, zf_ild 1, zf_ild 5, zf_ild 6, zf_ild 7, zf_ild 2, zf_inv h 17 31 5, zf_ladd, zf_lst 8, zf_ald 0, zf_getR 17 22, zf_ild 7, zf_aldL, zf_lc 0, zf_lcmp, zf_if .lt 170, zf_ald 0, zf_getR 17 22, zf_ild 7, zf_aldL, zf_lld 8, zf_lcmp, zf_if .gt 170, zf_go 182], 170),
  (170, [zf_ald 0, zf_getR 17 22, zf_ild 7, zf_lld 8, zf_astL, zf_ic 1, zf_ist 4], 182),
  (182, [zf_inc 6 1, zf_go 77], 188),
  (188, [zf_inc 5 1, zf_go 68], 194),
  (194, [zf_go 57], 197),
  (197, [zf_ret], 198)]
theorem zT17_30 (h : Nat) : zTab h 17 30 10 (zt17_30 h) := zTab.mk (ret := none) (bl := xk17_30) (by decide +kernel) (by decide +kernel) rfl rfl
def zt17_31 (h : Nat) : ZB := [(0, [zf_ald 0, zf_ild 4, zf_inv h 17 16 1, zf_ist 6, zf_lc 2, zf_lst 7, zf_ild 3, zf_if .eq 22, zf_ild 3, zf_ic 5, zf_ic2 .ne 50], 22),
  (22, [zf_lld 7, zf_ald 0, zf_getR 17 13, zf_ild 3, zf_if .ne 37, zf_ild 6, zf_go 42], 37),
  (37, [zf_ald 0, zf_ild 2, zf_inv h 17 16 1], 42),
  (42, [zf_aldI 100, zf_i2l, zf_ladd, zf_lst 7, zf_go 101], 50),
  (50, [zf_ild 3, zf_ic 1, zf_ic2 .eq 60, zf_ild 3, zf_ic 4, zf_ic2 .ne 64], 60),
  (60, [zf_ic 1, zf_go 65], 64),
  (64, [zf_ic 0], 65),
  (65, [zf_ist 9, zf_lld 7, zf_ild 9, zf_ild 6, zf_ic 2, zf_rem, zf_if .ne 82, zf_ic 1, zf_go 83], 82),
  (82, [zf_ic 0], 83),
  (83, [zf_ic2 .ne 97, zf_ald 0, zf_getR 17 12, zf_ild 6, zf_aldI 100, zf_i2l, zf_go 98], 97),
  (97, [zf_lc 0], 98),
  (98, [zf_ladd, zf_lst 7], 101),
  (101, [zf_ic 1, zf_ist 9], 104),
  (104, [zf_ild 9, zf_ic 5, zf_ic2 .ge 171, zf_ald 0, zf_ild 4, zf_ild 9, zf_inv h 17 19 2, zf_ist 10, zf_lld 7, zf_ild 10, zf_ic (-1), zf_ic2 .eq 161, zf_ald 0, zf_getR 17 8, zf_ild 10, zf_aldI 100, zf_ic (-1), zf_ic2 .eq 161, zf_ald 0, zf_getR 17 8, zf_ild 10, zf_aldI 100, zf_ild 1, zf_ic2 .eq 161, zf_ald 0, zf_getR 17 14, zf_ild 6, zf_aldI 100, zf_i2l, zf_go 162], 161),
  (161, [zf_lc 0], 162),
  (162, [zf_ladd, zf_lst 7, zf_inc 9 1, zf_go 104], 171),
  (171, [zf_lld 7, zf_ald 0, zf_getR 17 11, zf_ild 4, zf_aldL, zf_ladd, zf_ild 5, zf_if .eq 214, zf_ald 0, zf_getR 17 8, zf_ild 4, zf_aldI 100, zf_ic (-1), zf_ic2 .eq 214, zf_ald 0, zf_getR 17 8, zf_ild 4, zf_aldI 100, zf_ild 1, zf_ic2 .eq 214, zf_lc 100, zf_go 215], 214),
  (214, [zf_lc 0], 215),
  (215, [zf_ladd, zf_retl], 217)]
theorem zT17_31 (h : Nat) : zTab h 17 31 11 (zt17_31 h) := zTab.mk (ret := (some .long)) (bl := xk17_31) (by decide +kernel) (by decide +kernel) rfl rfl
def zt17_32 (h : Nat) : ZB := [(0, [zf_ald 0, zf_getI 17 0, zf_reti], 5)]
theorem zT17_32 (h : Nat) : zTab h 17 32 1 (zt17_32 h) := zTab.mk (ret := (some .int)) (bl := xk17_32) (by decide +kernel) (by decide +kernel) rfl rfl
def zt17_33 (h : Nat) : ZB := [(0, [zf_ic 0, zf_ist 1, zf_ic 0, zf_ist 2], 4),
  (4, [zf_ild 2, zf_ald 0, zf_getI 17 5, zf_ic2 .ge 39, zf_ald 0, zf_ild 2, zf_inv h 17 14 1, zf_if .ne 23, zf_go 33], 23),
  (23, [zf_ald 0, zf_getR 17 24, zf_ild 1, zf_ild 2, zf_astI, zf_inc 1 1], 33),
  (33, [zf_inc 2 1, zf_go 4], 39),
  (39, [zf_ild 1, zf_ic 1, zf_sub, zf_ist 2], 43),
  (43, [zf_ild 2, zf_if .le 92, zf_ald 0, zf_inv h 17 8 0, zf_ild 2, zf_ic 1, zf_add, zf_i2l, zf_lrem, zf_l2i, zf_ist 3, zf_ald 0, zf_getR 17 24, zf_ild 2, zf_aldI 100, zf_ist 4, zf_ald 0, zf_getR 17 24, zf_ild 2, zf_ald 0, zf_getR 17 24, zf_ild 3, zf_aldI 100, zf_astI, zf_ald 0, zf_getR 17 24, zf_ild 3, zf_ild 4, zf_astI, zf_inc 2 (-1), zf_go 43], 92),
  (92, [zf_ic 0, zf_ist 2], 94),
  (94, [zf_ild 2, zf_ild 1, zf_ic2 .ge 128, zf_ald 0, zf_ald 0, zf_getR 17 24, zf_ild 2, zf_aldI 100, zf_inv h 17 14 1, zf_if .eq 122, zf_ald 0, zf_ald 0, zf_getR 17 24, zf_ild 2, zf_aldI 100, zf_inv h 17 17 1], 122),
  (122, [zf_inc 2 1, zf_go 94], 128),
  (128, [zf_ald 0, zf_dup, zf_getI 17 21, zf_ic 1, zf_add, zf_putI 17 21, zf_ret], 139)]
theorem zT17_33 (h : Nat) : zTab h 17 33 5 (zt17_33 h) := zTab.mk (ret := none) (bl := xk17_33) (by decide +kernel) (by decide +kernel) rfl rfl
def zt18_0 (h : Nat) : ZB := [(0, [zf_ic 0, zf_ist 1], 2),
  (2, [zf_ild 1, zf_ic 960, zf_ic2 .ge 38, zf_ald 0, zf_getR 18 28, zf_ild 1, zf_ald 0, zf_getI 18 32, zf_if .eq 30, zf_ald 0, zf_getR 18 27, zf_ild 1, zf_aldI 100, zf_go 31], 30),
  (30, [zf_ic (-1)], 31),
  (31, [zf_astI, zf_inc 1 1, zf_go 2], 38),
  (38, [zf_ald 0, zf_ic 1, zf_putZ 18 32, zf_ald 0, zf_inv h 18 13 0, zf_ald 0, zf_inv h 18 28 0, zf_ald 0, zf_ic 0, zf_putI 18 31, zf_ic 0, zf_ist 1], 58),
  (58, [zf_ild 1, zf_ald 0, zf_getI 18 29, zf_ic2 .ge 114, zf_ald 0, zf_getR 18 30, zf_ild 1, zf_ald 0, zf_ild 1, zf_inv h 18 35 1, zf_if .ne 83, zf_ic 1, zf_go 84], 83),
  (83, [zf_ic 0], 84),
  (84, [zf_astB, zf_ald 0, zf_dup, zf_getI 18 31, zf_ald 0, zf_getR 18 30, zf_ild 1, zf_aldB, zf_if .eq 103, zf_ic 1, zf_go 104], 103),
  (103, [zf_ic 0], 104),
  (104, [zf_add, zf_putI 18 31, zf_inc 1 1, zf_go 58], 114),
  (114, [zf_ret], 115)]
theorem zT18_0 (h : Nat) : zTab h 18 0 2 (zt18_0 h) := zTab.mk (ret := none) (bl := xk18_0) (by decide +kernel) (by decide +kernel) rfl rfl
def zt18_1 (h : Nat) : ZB := [(0, [zf_ild 2, zf_ist 3, zf_ild 1, zf_ist 4], 5),
  (5, [zf_ild 4, zf_ald 0, zf_getI 18 1, zf_ic2 .ge 48, zf_ild 2, zf_if .lt 48, zf_ald 0, zf_getR 18 3, zf_ild 4, zf_aldI 100, zf_ild 1, zf_ic2 .eq 32, zf_go 42], 32),
  (32, [zf_ild 3, zf_if .ne 39, zf_ild 4, zf_reti], 39),
  (39, [zf_inc 3 (-1)], 42),
  (42, [zf_inc 4 1, zf_go 5], 48),
  (48, [zf_ic (-1), zf_reti], 50)]
theorem zT18_1 (h : Nat) : zTab h 18 1 5 (zt18_1 h) := zTab.mk (ret := (some .int)) (bl := xk18_1) (by decide +kernel) (by decide +kernel) rfl rfl
def zt18_2 (h : Nat) : ZB := [(0, [zf_ald 0, zf_getR 18 6, zf_ic 4, zf_ild 1, zf_mul, zf_aldL, zf_lst 6, zf_ald 0, zf_getR 18 6, zf_ic 4, zf_ild 1, zf_mul, zf_ic 1, zf_add, zf_aldL, zf_lst 8, zf_ald 0, zf_getR 18 6, zf_ic 4, zf_ild 1, zf_mul, zf_ic 2, zf_add, zf_aldL, zf_lst 10, zf_ald 0, zf_getR 18 6, zf_ic 4, zf_ild 1, zf_mul, zf_ic 3, zf_add, zf_aldL, zf_lst 12, zf_lld 2, zf_lld 6, zf_lcmp, zf_if .lt 60, zf_lld 2, zf_lld 10, zf_lcmp, zf_if .le 74], 60),
  (60, [zf_lld 2, zf_lld 10, zf_lcmp, zf_if .lt 110, zf_lld 2, zf_lld 6, zf_lcmp, zf_if .gt 110], 74),
  (74, [zf_lld 4, zf_lld 8, zf_lcmp, zf_if .lt 90, zf_lld 4, zf_lld 12, zf_lcmp, zf_if .le 106], 90),
  (90, [zf_lld 4, zf_lld 12, zf_lcmp, zf_if .lt 110, zf_lld 4, zf_lld 8, zf_lcmp, zf_if .gt 110], 106),
  (106, [zf_ic 1, zf_go 111], 110),
  (110, [zf_ic 0], 111),
  (111, [zf_ist 14, zf_ild 14, zf_if .eq 147, zf_lld 10, zf_lld 6, zf_lsub, zf_lld 4, zf_lld 8, zf_lsub, zf_lmul, zf_lld 12, zf_lld 8, zf_lsub, zf_lld 2, zf_lld 6, zf_lsub, zf_lmul, zf_lcmp, zf_if .ne 147, zf_ic 1, zf_go 148], 147),
  (147, [zf_ic 0], 148),
  (148, [zf_retz], 149)]
theorem zT18_2 (h : Nat) : zTab h 18 2 15 (zt18_2 h) := zTab.mk (ret := (some .boolean)) (bl := xk18_2) (by decide +kernel) (by decide +kernel) rfl rfl
def zt18_3 (h : Nat) : ZB := [(0, [zf_ic 0, zf_ist 3], 2),
  (2, [zf_ild 3, zf_ald 0, zf_getI 18 11, zf_ic2 .ge 89, zf_ald 0, zf_getR 18 13, zf_ild 3, zf_aldI 100, zf_ild 2, zf_ic2 .eq 23, zf_go 83], 23),
  (23, [zf_ic 0, zf_ist 4], 26),
  (26, [zf_ild 4, zf_ald 0, zf_getI 18 1, zf_ic2 .ge 83, zf_ald 0, zf_getR 18 3, zf_ild 4, zf_aldI 100, zf_ald 0, zf_getR 18 12, zf_ild 3, zf_aldI 100, zf_ic2 .ne 77, zf_ald 0, zf_getR 18 26, zf_ald 0, zf_ic 1600, zf_ic 16, zf_ild 3, zf_mul, zf_add, zf_ild 4, zf_add, zf_inv h 18 20 1, zf_aldI 100, zf_ild 1, zf_ic2 .ne 77, zf_ic 1, zf_retz], 77),
  (77, [zf_inc 4 1, zf_go 26], 83),
  (83, [zf_inc 3 1, zf_go 2], 89),
  (89, [zf_ic 0, zf_retz], 91)]
theorem zT18_3 (h : Nat) : zTab h 18 3 5 (zt18_3 h) := zTab.mk (ret := (some .boolean)) (bl := xk18_3) (by decide +kernel) (by decide +kernel) rfl rfl
def zt18_4 (h : Nat) : ZB := [(0, [zf_ic 0, zf_ist 3], 2),
  (2, [zf_ild 3, zf_ic 4, zf_ic2 .ge 84, zf_ic 0, zf_ist 4], 10),
  (10, [zf_ild 4, zf_ic 4, zf_ic2 .ge 78, zf_ald 0, zf_getR 18 6, zf_ic 4, zf_ild 1, zf_mul, zf_ild 3, zf_add, zf_aldL, zf_ald 0, zf_getR 18 6, zf_ic 4, zf_ild 2, zf_mul, zf_ild 4, zf_add, zf_aldL, zf_lcmp, zf_if .ne 72, zf_ald 0, zf_getR 18 6, zf_ic 4, zf_ild 1, zf_mul, zf_ild 3, zf_add, zf_ic 1, zf_add, zf_aldL, zf_ald 0, zf_getR 18 6, zf_ic 4, zf_ild 2, zf_mul, zf_ild 4, zf_add, zf_ic 1, zf_add, zf_aldL, zf_lcmp, zf_if .ne 72, zf_ic 1, zf_retz], 72),
  (72, [zf_inc 4 2, zf_go 10], 78),
  (78, [zf_inc 3 2, zf_go 2], 84),
  (84, [zf_ic 0, zf_retz], 86)]
theorem zT18_4 (h : Nat) : zTab h 18 4 5 (zt18_4 h) := zTab.mk (ret := (some .boolean)) (bl := xk18_4) (by decide +kernel) (by decide +kernel) rfl rfl
def zt18_5 (h : Nat) : ZB := [(0, [zf_ald 0, zf_ini, zf_ald 0, zf_ic 16, zf_newA 100, zf_putR 18 2, zf_ald 0, zf_ic 16, zf_newA 100, zf_putR 18 3, zf_ald 0, zf_ic 100, zf_newA 100, zf_putR 18 5, zf_ald 0, zf_ic 400, zf_newA 101, zf_putR 18 6, zf_ald 0, zf_ic 100, zf_newA 103, zf_putR 18 7, zf_ald 0, zf_ic 50, zf_newA 100, zf_putR 18 9, zf_ald 0, zf_ic 100, zf_newA 101, zf_putR 18 10, zf_ald 0, zf_ic 60, zf_newA 100, zf_putR 18 12, zf_ald 0, zf_ic 60, zf_newA 100, zf_putR 18 13, zf_ald 0, zf_ic 120, zf_newA 101, zf_putR 18 14, zf_ald 0, zf_ic 60, zf_newA 100, zf_putR 18 16, zf_ald 0, zf_ic 60, zf_newA 100, zf_putR 18 17, zf_ald 0, zf_ic 120, zf_newA 101, zf_putR 18 18, zf_ald 0, zf_ic 60, zf_newA 103, zf_putR 18 19, zf_ald 0, zf_ic 90, zf_newA 100, zf_putR 18 21, zf_ald 0, zf_ic 64, zf_newA 100, zf_putR 18 23, zf_ald 0, zf_ic 1000, zf_newA 100, zf_putR 18 24, zf_ald 0, zf_ic 19520, zf_newA 100, zf_putR 18 25, zf_ald 0, zf_ic 19520, zf_newA 100, zf_putR 18 26, zf_ald 0, zf_ic 960, zf_newA 100, zf_putR 18 27, zf_ald 0, zf_ic 960, zf_newA 100, zf_putR 18 28, zf_ald 0, zf_ic 960, zf_newA 103, zf_putR 18 30, zf_ret], 188)]
theorem zT18_5 (h : Nat) : zTab h 18 5 1 (zt18_5 h) := zTab.mk (ret := none) (bl := xk18_5) (by decide +kernel) (by decide +kernel) rfl rfl
def zt18_6 (h : Nat) : ZB := [(0, [zf_ald 0, zf_getR 18 14, zf_ic 2, zf_ild 1, zf_mul, zf_aldL, zf_lst 2, zf_ald 0, zf_getR 18 14, zf_ic 2, zf_ild 1, zf_mul, zf_ic 1, zf_add, zf_aldL, zf_lst 4, zf_ald 0, zf_getR 18 12, zf_ild 1, zf_aldI 100, zf_ist 6, zf_ic 0, zf_ist 7], 32),
  (32, [zf_ild 7, zf_ald 0, zf_getI 18 4, zf_ic2 .ge 72, zf_ald 0, zf_ild 7, zf_ild 6, zf_inv h 18 9 2, zf_if .eq 66, zf_ald 0, zf_ild 7, zf_lld 2, zf_lld 4, zf_inv h 18 2 3, zf_if .eq 66, zf_ic 0, zf_retz], 66),
  (66, [zf_inc 7 1, zf_go 32], 72),
  (72, [zf_ic 0, zf_ist 7], 75),
  (75, [zf_ild 7, zf_ald 0, zf_getI 18 15, zf_ic2 .ge 135, zf_ald 0, zf_getR 18 16, zf_ild 7, zf_aldI 100, zf_ild 6, zf_ic2 .ne 129, zf_ald 0, zf_getR 18 18, zf_ic 2, zf_ild 7, zf_mul, zf_aldL, zf_lld 2, zf_lcmp, zf_if .ne 129, zf_ald 0, zf_getR 18 18, zf_ic 2, zf_ild 7, zf_mul, zf_ic 1, zf_add, zf_aldL, zf_lld 4, zf_lcmp, zf_if .ne 129, zf_ic 0, zf_retz], 129),
  (129, [zf_inc 7 1, zf_go 75], 135),
  (135, [zf_ic 1, zf_retz], 137)]
theorem zT18_6 (h : Nat) : zTab h 18 6 8 (zt18_6 h) := zTab.mk (ret := (some .boolean)) (bl := xk18_6) (by decide +kernel) (by decide +kernel) rfl rfl
def zt18_7 (h : Nat) : ZB := [(0, [zf_ic 16, zf_ild 1, zf_mul, zf_ist 2], 5),
  (5, [zf_ild 2, zf_ic 16, zf_ild 1, zf_mul, zf_ic 16, zf_add, zf_ic2 .ge 69, zf_ic 0, zf_ist 3], 18),
  (18, [zf_ild 3, zf_ic 960, zf_ic2 .ge 63, zf_ald 0, zf_getR 18 27, zf_ild 2, zf_aldI 100, zf_ic (-1), zf_ic2 .eq 63, zf_ild 3, zf_ild 2, zf_ic2 .eq 57, zf_ald 0, zf_getR 18 27, zf_ild 3, zf_aldI 100, zf_ald 0, zf_getR 18 27, zf_ild 2, zf_aldI 100, zf_ic2 .ne 57, zf_ic 1, zf_retz], 57),
  (57, [zf_inc 3 1, zf_go 18], 63),
  (63, [zf_inc 2 1, zf_go 5], 69),
  (69, [zf_ic 0, zf_retz], 71)]
theorem zT18_7 (h : Nat) : zTab h 18 7 4 (zt18_7 h) := zTab.mk (ret := (some .boolean)) (bl := xk18_7) (by decide +kernel) (by decide +kernel) rfl rfl
def zt18_8 (h : Nat) : ZB := [(0, [zf_ild 0, zf_if .lt 15, zf_ild 0, zf_ic 1000, zf_ic2 .ge 15, zf_ic 1, zf_go 16], 15),
  (15, [zf_ic 0], 16),
  (16, [zf_retz], 17)]
theorem zT18_8 (h : Nat) : zTab h 18 8 1 (zt18_8 h) := zTab.mk (ret := (some .boolean)) (bl := xk18_8) (by decide +kernel) (by decide +kernel) rfl rfl
def zt18_9 (h : Nat) : ZB := [(0, [zf_ald 0, zf_getR 18 5, zf_ild 1, zf_aldI 100, zf_ild 2, zf_ic2 .ne 23, zf_ald 0, zf_getR 18 7, zf_ild 1, zf_aldB, zf_if .ne 23, zf_ic 1, zf_go 24], 23),
  (23, [zf_ic 0], 24),
  (24, [zf_retz], 25)]
theorem zT18_9 (h : Nat) : zTab h 18 9 3 (zt18_9 h) := zTab.mk (ret := (some .boolean)) (bl := xk18_9) (by decide +kernel) (by decide +kernel) rfl rfl
def zt18_10 (h : Nat) : ZB := [(0, [zf_lld 0, zf_lc (-1000000000), zf_lcmp, zf_if .lt 36, zf_lld 0, zf_lc 1000000000, zf_lcmp, zf_if .gt 36, zf_lld 2, zf_lc (-1000000000), zf_lcmp, zf_if .lt 36, zf_lld 2, zf_lc 1000000000, zf_lcmp, zf_if .gt 36, zf_ic 1, zf_go 37], 36),
  (36, [zf_ic 0], 37),
  (37, [zf_retz], 38)]
theorem zT18_10 (h : Nat) : zTab h 18 10 4 (zt18_10 h) := zTab.mk (ret := (some .boolean)) (bl := xk18_10) (by decide +kernel) (by decide +kernel) rfl rfl
def zt18_11 (h : Nat) : ZB := [(0, [zf_ild 1, zf_if .lt 16, zf_ild 1, zf_ald 0, zf_getI 18 1, zf_ic2 .ge 16, zf_ic 1, zf_go 17], 16),
  (16, [zf_ic 0], 17),
  (17, [zf_retz], 18)]
theorem zT18_11 (h : Nat) : zTab h 18 11 2 (zt18_11 h) := zTab.mk (ret := (some .boolean)) (bl := xk18_11) (by decide +kernel) (by decide +kernel) rfl rfl
def zt18_12 (h : Nat) : ZB := [(0, [zf_ald 0, zf_ild 1, zf_inv h 18 20 1, zf_ist 3, zf_ald 0, zf_ild 2, zf_inv h 18 20 1, zf_ist 4, zf_ild 3, zf_ild 4, zf_ic2 .ge 30, zf_ald 0, zf_getR 18 25, zf_ild 4, zf_ild 3, zf_astI, zf_go 38], 30),
  (30, [zf_ald 0, zf_getR 18 25, zf_ild 3, zf_ild 4, zf_astI], 38),
  (38, [zf_ald 0, zf_getR 18 25, zf_ild 1, zf_ild 3, zf_ild 4, zf_ic2 .ge 53, zf_ild 3, zf_go 55], 53),
  (53, [zf_ild 4], 55),
  (55, [zf_astI, zf_ald 0, zf_getR 18 25, zf_ild 2, zf_ild 3, zf_ild 4, zf_ic2 .ge 71, zf_ild 3, zf_go 73], 71),
  (71, [zf_ild 4], 73),
  (73, [zf_astI, zf_ret], 75)]
theorem zT18_12 (h : Nat) : zTab h 18 12 5 (zt18_12 h) := zTab.mk (ret := none) (bl := xk18_12) (by decide +kernel) (by decide +kernel) rfl rfl
def zt18_13 (h : Nat) : ZB := [(0, [zf_ic 0, zf_ist 1], 2),
  (2, [zf_ild 1, zf_ic 19520, zf_ic2 .ge 22, zf_ald 0, zf_getR 18 25, zf_ild 1, zf_ild 1, zf_astI, zf_inc 1 1, zf_go 2], 22),
  (22, [zf_ic 0, zf_ist 1], 24),
  (24, [zf_ild 1, zf_ald 0, zf_getI 18 1, zf_ic2 .ge 102, zf_ald 0, zf_ild 1, zf_inv h 18 16 1, zf_ic 0, zf_ist 2], 39),
  (39, [zf_ild 2, zf_ald 0, zf_getI 18 1, zf_ic2 .ge 96, zf_ic 0, zf_ist 3], 49),
  (49, [zf_ild 3, zf_ald 0, zf_getI 18 22, zf_ic2 .ge 90, zf_ic 0, zf_ist 4], 60),
  (60, [zf_ild 4, zf_ald 0, zf_getI 18 22, zf_ic2 .ge 84, zf_ald 0, zf_ild 3, zf_ild 1, zf_ild 4, zf_ild 2, zf_inv h 18 14 4, zf_inc 4 1, zf_go 60], 84),
  (84, [zf_inc 3 1, zf_go 49], 90),
  (90, [zf_inc 2 1, zf_go 39], 96),
  (96, [zf_inc 1 1, zf_go 24], 102),
  (102, [zf_ic 0, zf_ist 1], 104),
  (104, [zf_ild 1, zf_ald 0, zf_getI 18 20, zf_ic2 .ge 170, zf_ald 0, zf_getR 18 21, zf_ic 3, zf_ild 1, zf_mul, zf_aldI 100, zf_ist 2, zf_ald 0, zf_ic 1600, zf_ic 16, zf_ald 0, zf_getR 18 21, zf_ic 3, zf_ild 1, zf_mul, zf_ic 1, zf_add, zf_aldI 100, zf_mul, zf_add, zf_ild 2, zf_add, zf_ald 0, zf_ald 0, zf_getR 18 2, zf_ild 2, zf_aldI 100, zf_ald 0, zf_getR 18 21, zf_ic 3, zf_ild 1, zf_mul, zf_ic 2, zf_add, zf_aldI 100, zf_inv h 18 24 2, zf_inv h 18 12 2, zf_inc 1 1, zf_go 104], 170),
  (170, [zf_ret], 171)]
theorem zT18_13 (h : Nat) : zTab h 18 13 5 (zt18_13 h) := zTab.mk (ret := none) (bl := xk18_13) (by decide +kernel) (by decide +kernel) rfl rfl
def zt18_14 (h : Nat) : ZB := [(0, [zf_ald 0, zf_getR 18 3, zf_ild 2, zf_aldI 100, zf_ald 0, zf_getR 18 23, zf_ic 4, zf_ild 1, zf_mul, zf_aldI 100, zf_ic2 .ne 84, zf_ald 0, zf_getR 18 3, zf_ild 4, zf_aldI 100, zf_ald 0, zf_getR 18 23, zf_ic 4, zf_ild 3, zf_mul, zf_aldI 100, zf_ic2 .ne 84, zf_ald 0, zf_getR 18 23, zf_ic 4, zf_ild 1, zf_mul, zf_ic 1, zf_add, zf_aldI 100, zf_ald 0, zf_getR 18 23, zf_ic 4, zf_ild 3, zf_mul, zf_ic 1, zf_add, zf_aldI 100, zf_ic2 .ne 84, zf_ild 2, zf_ild 4, zf_ic2 .eq 80, zf_ald 0, zf_getR 18 23, zf_ic 4, zf_ild 1, zf_mul, zf_ic 1, zf_add, zf_aldI 100, zf_ic 900, zf_ic2 .lt 84], 80),
  (80, [zf_ic 1, zf_go 85], 84),
  (84, [zf_ic 0], 85),
  (85, [zf_ist 5, zf_ic 0, zf_ist 6], 90),
  (90, [zf_ild 5, zf_if .eq 150, zf_ild 6, zf_ald 0, zf_ild 1, zf_inv h 18 22 1, zf_ic2 .ge 150, zf_ild 6, zf_ald 0, zf_ild 3, zf_inv h 18 22 1, zf_ic2 .ge 150, zf_ald 0, zf_ald 0, zf_ild 2, zf_ald 0, zf_ild 1, zf_ild 6, zf_inv h 18 21 2, zf_inv h 18 24 2, zf_ald 0, zf_ild 4, zf_ald 0, zf_ild 3, zf_ild 6, zf_inv h 18 21 2, zf_inv h 18 24 2, zf_inv h 18 12 2, zf_inc 6 1, zf_go 90], 150),
  (150, [zf_ret], 151)]
theorem zT18_14 (h : Nat) : zTab h 18 14 7 (zt18_14 h) := zTab.mk (ret := none) (bl := xk18_14) (by decide +kernel) (by decide +kernel) rfl rfl
def zt18_15 (h : Nat) : ZB := [(0, [zf_ic 0, zf_ist 8], 3),
  (3, [zf_ild 8, zf_ald 0, zf_getI 18 4, zf_ic2 .ge 53, zf_ald 0, zf_ild 8, zf_ild 3, zf_inv h 18 9 2, zf_if .eq 47, zf_ald 0, zf_ild 8, zf_lld 4, zf_lld 6, zf_inv h 18 2 3, zf_if .eq 47, zf_ald 0, zf_ild 1, zf_ic 16, zf_ild 8, zf_mul, zf_ild 2, zf_add, zf_inv h 18 12 2], 47),
  (47, [zf_inc 8 1, zf_go 3], 53),
  (53, [zf_ic 0, zf_ist 8], 56),
  (56, [zf_ild 8, zf_ald 0, zf_getI 18 11, zf_ic2 .ge 130, zf_ald 0, zf_getR 18 12, zf_ild 8, zf_aldI 100, zf_ild 3, zf_ic2 .ne 124, zf_ald 0, zf_getR 18 14, zf_ic 2, zf_ild 8, zf_mul, zf_aldL, zf_lld 4, zf_lcmp, zf_if .ne 124, zf_ald 0, zf_getR 18 14, zf_ic 2, zf_ild 8, zf_mul, zf_ic 1, zf_add, zf_aldL, zf_lld 6, zf_lcmp, zf_if .ne 124, zf_ald 0, zf_ild 1, zf_ic 1600, zf_ic 16, zf_ild 8, zf_mul, zf_add, zf_ild 2, zf_add, zf_inv h 18 12 2], 124),
  (124, [zf_inc 8 1, zf_go 56], 130),
  (130, [zf_ic 0, zf_ist 8], 133),
  (133, [zf_ild 8, zf_ald 0, zf_getI 18 15, zf_ic2 .ge 207, zf_ald 0, zf_getR 18 16, zf_ild 8, zf_aldI 100, zf_ild 3, zf_ic2 .ne 201, zf_ald 0, zf_getR 18 18, zf_ic 2, zf_ild 8, zf_mul, zf_aldL, zf_lld 4, zf_lcmp, zf_if .ne 201, zf_ald 0, zf_getR 18 18, zf_ic 2, zf_ild 8, zf_mul, zf_ic 1, zf_add, zf_aldL, zf_lld 6, zf_lcmp, zf_if .ne 201, zf_ald 0, zf_ild 1, zf_ic 2560, zf_ic 16, zf_ild 8, zf_mul, zf_add, zf_ild 2, zf_add, zf_inv h 18 12 2], 201),
  (201, [zf_inc 8 1, zf_go 133], 207),
  (207, [zf_ret], 208)]
theorem zT18_15 (h : Nat) : zTab h 18 15 9 (zt18_15 h) := zTab.mk (ret := none) (bl := xk18_15) (by decide +kernel) (by decide +kernel) rfl rfl
def zt18_16 (h : Nat) : ZB := [(0, [zf_ald 0, zf_getR 18 3, zf_ild 1, zf_aldI 100, zf_ist 2, zf_ald 0, zf_ild 1, zf_ild 2, zf_inv h 18 17 2, zf_ic 0, zf_ist 3], 15),
  (15, [zf_ild 3, zf_ald 0, zf_getI 18 11, zf_ic2 .ge 97, zf_ald 0, zf_getR 18 12, zf_ild 3, zf_aldI 100, zf_ild 2, zf_ic2 .eq 36, zf_go 91], 36),
  (36, [zf_ic 1600, zf_ic 16, zf_ild 3, zf_mul, zf_add, zf_ild 1, zf_add, zf_ist 4, zf_ald 0, zf_ild 4, zf_ild 1, zf_ild 2, zf_ald 0, zf_getR 18 14, zf_ic 2, zf_ild 3, zf_mul, zf_aldL, zf_ald 0, zf_getR 18 14, zf_ic 2, zf_ild 3, zf_mul, zf_ic 1, zf_add, zf_aldL, zf_inv h 18 15 5, zf_ald 0, zf_ild 4, zf_ald 0, zf_ild 1, zf_ald 0, zf_getR 18 13, zf_ild 3, zf_aldI 100, zf_inv h 18 24 2, zf_inv h 18 12 2], 91),
  (91, [zf_inc 3 1, zf_go 15], 97),
  (97, [zf_ic 0, zf_ist 3], 99),
  (99, [zf_ild 3, zf_ald 0, zf_getI 18 15, zf_ic2 .ge 157, zf_ald 0, zf_getR 18 16, zf_ild 3, zf_aldI 100, zf_ild 2, zf_ic2 .ne 151, zf_ald 0, zf_ic 2560, zf_ic 16, zf_ild 3, zf_mul, zf_add, zf_ild 1, zf_add, zf_ild 1, zf_ild 2, zf_ald 0, zf_getR 18 18, zf_ic 2, zf_ild 3, zf_mul, zf_aldL, zf_ald 0, zf_getR 18 18, zf_ic 2, zf_ild 3, zf_mul, zf_ic 1, zf_add, zf_aldL, zf_inv h 18 15 5], 151),
  (151, [zf_inc 3 1, zf_go 99], 157),
  (157, [zf_ret], 158)]
theorem zT18_16 (h : Nat) : zTab h 18 16 5 (zt18_16 h) := zTab.mk (ret := none) (bl := xk18_16) (by decide +kernel) (by decide +kernel) rfl rfl
def zt18_17 (h : Nat) : ZB := [(0, [zf_ic 0, zf_ist 3], 2),
  (2, [zf_ild 3, zf_ald 0, zf_getI 18 4, zf_ic2 .ge 204, zf_ic 0, zf_ist 4], 13),
  (13, [zf_ild 4, zf_ild 3, zf_ic2 .ge 198, zf_ald 0, zf_ild 3, zf_ild 2, zf_inv h 18 9 2, zf_if .eq 42, zf_ald 0, zf_ild 4, zf_ild 2, zf_inv h 18 9 2, zf_if .eq 42, zf_ic 1, zf_go 43], 42),
  (42, [zf_ic 0], 43),
  (43, [zf_ist 5, zf_ild 5, zf_if .eq 64, zf_ald 0, zf_ild 3, zf_ild 4, zf_inv h 18 4 2, zf_if .eq 64, zf_ic 1, zf_go 65], 64),
  (64, [zf_ic 0], 65),
  (65, [zf_ist 6, zf_ic 0, zf_ist 7], 70),
  (70, [zf_ild 7, zf_ald 0, zf_getI 18 8, zf_ic2 .ge 170, zf_ild 5, zf_if .eq 170, zf_ild 6, zf_if .ne 170, zf_ald 0, zf_getR 18 9, zf_ild 7, zf_aldI 100, zf_ild 2, zf_ic2 .ne 161, zf_ald 0, zf_ild 3, zf_ald 0, zf_getR 18 10, zf_ic 2, zf_ild 7, zf_mul, zf_aldL, zf_ald 0, zf_getR 18 10, zf_ic 2, zf_ild 7, zf_mul, zf_ic 1, zf_add, zf_aldL, zf_inv h 18 2 3, zf_if .eq 161, zf_ald 0, zf_ild 4, zf_ald 0, zf_getR 18 10, zf_ic 2, zf_ild 7, zf_mul, zf_aldL, zf_ald 0, zf_getR 18 10, zf_ic 2, zf_ild 7, zf_mul, zf_ic 1, zf_add, zf_aldL, zf_inv h 18 2 3, zf_if .eq 161, zf_ic 1, zf_go 162], 161),
  (161, [zf_ic 0], 162),
  (162, [zf_ist 6, zf_inc 7 1, zf_go 70], 170),
  (170, [zf_ild 6, zf_if .eq 192, zf_ald 0, zf_ic 16, zf_ild 3, zf_mul, zf_ild 1, zf_add, zf_ic 16, zf_ild 4, zf_mul, zf_ild 1, zf_add, zf_inv h 18 12 2], 192),
  (192, [zf_inc 4 1, zf_go 13], 198),
  (198, [zf_inc 3 1, zf_go 2], 204),
  (204, [zf_ret], 205)]
theorem zT18_17 (h : Nat) : zTab h 18 17 8 (zt18_17 h) := zTab.mk (ret := none) (bl := xk18_17) (by decide +kernel) (by decide +kernel) rfl rfl
def zt18_18 (h : Nat) : ZB := [(0, [zf_ald 0, zf_ald 0, zf_ild 1, zf_lld 2, zf_lld 4, zf_inst h 18 10 2, zf_inv h 18 31 2, zf_putI 18 0, zf_ald 0, zf_getI 18 0, zf_if .ne 31, zf_ald 0, zf_getI 18 8, zf_ic 50, zf_ic2 .ne 33], 31),
  (31, [zf_ic 0, zf_retz], 33),
  (33, [zf_ic 0, zf_ist 6], 36),
  (36, [zf_ild 6, zf_ald 0, zf_getI 18 8, zf_ic2 .ge 95, zf_ald 0, zf_getR 18 9, zf_ild 6, zf_aldI 100, zf_ild 1, zf_ic2 .ne 89, zf_ald 0, zf_getR 18 10, zf_ic 2, zf_ild 6, zf_mul, zf_aldL, zf_lld 2, zf_lcmp, zf_if .ne 89, zf_ald 0, zf_getR 18 10, zf_ic 2, zf_ild 6, zf_mul, zf_ic 1, zf_add, zf_aldL, zf_lld 4, zf_lcmp, zf_if .ne 89, zf_ic 0, zf_retz], 89),
  (89, [zf_inc 6 1, zf_go 36], 95),
  (95, [zf_ald 0, zf_getR 18 9, zf_ald 0, zf_getI 18 8, zf_ild 1, zf_astI, zf_ald 0, zf_getR 18 10, zf_ic 2, zf_ald 0, zf_getI 18 8, zf_mul, zf_lld 2, zf_astL, zf_ald 0, zf_getR 18 10, zf_ic 2, zf_ald 0, zf_getI 18 8, zf_mul, zf_ic 1, zf_add, zf_lld 4, zf_astL, zf_ald 0, zf_dup, zf_getI 18 8, zf_ic 1, zf_add, zf_putI 18 8, zf_ald 0, zf_inv h 18 0 0, zf_ic 1, zf_retz], 148)]
theorem zT18_18 (h : Nat) : zTab h 18 18 7 (zt18_18 h) := zTab.mk (ret := (some .boolean)) (bl := xk18_18) (by decide +kernel) (by decide +kernel) rfl rfl
def zt18_19 (h : Nat) : ZB := [(0, [zf_ald 0, zf_ald 0, zf_ild 1, zf_lld 2, zf_lld 4, zf_inst h 18 10 2, zf_if .eq 24, zf_ild 6, zf_inst h 18 8 1, zf_if .eq 24, zf_ic 1, zf_go 25], 24),
  (24, [zf_ic 0], 25),
  (25, [zf_inv h 18 31 2, zf_putI 18 0, zf_ald 0, zf_getI 18 0, zf_if .eq 40, zf_ic 0, zf_reti], 40),
  (40, [zf_ald 0, zf_getI 18 11, zf_ic 60, zf_ic2 .ne 51, zf_ic (-1), zf_reti], 51),
  (51, [zf_ald 0, zf_getR 18 12, zf_ald 0, zf_getI 18 11, zf_ild 1, zf_astI, zf_ald 0, zf_getR 18 13, zf_ald 0, zf_getI 18 11, zf_ild 6, zf_astI, zf_ald 0, zf_getR 18 14, zf_ic 2, zf_ald 0, zf_getI 18 11, zf_mul, zf_lld 2, zf_astL, zf_ald 0, zf_getR 18 14, zf_ic 2, zf_ald 0, zf_getI 18 11, zf_mul, zf_ic 1, zf_add, zf_lld 4, zf_astL, zf_ald 0, zf_dup, zf_getI 18 11, zf_ic 1, zf_add, zf_putI 18 11, zf_ald 0, zf_inv h 18 0 0, zf_ald 0, zf_getI 18 11, zf_ic 1, zf_sub, zf_reti], 120)]
theorem zT18_19 (h : Nat) : zTab h 18 19 7 (zt18_19 h) := zTab.mk (ret := (some .int)) (bl := xk18_19) (by decide +kernel) (by decide +kernel) rfl rfl
def zt18_20 (h : Nat) : ZB := [(0, [zf_ild 1, zf_ist 2], 2),
  (2, [zf_ald 0, zf_getR 18 25, zf_ild 2, zf_aldI 100, zf_ild 2, zf_ic2 .eq 22, zf_ald 0, zf_getR 18 25, zf_ild 2, zf_aldI 100, zf_ist 2, zf_go 2], 22),
  (22, [zf_ild 2, zf_reti], 24)]
theorem zT18_20 (h : Nat) : zTab h 18 20 3 (zt18_20 h) := zTab.mk (ret := (some .int)) (bl := xk18_20) (by decide +kernel) (by decide +kernel) rfl rfl
def zt18_21 (h : Nat) : ZB := [(0, [zf_ald 0, zf_getR 18 23, zf_ic 4, zf_ild 1, zf_mul, zf_ic 3, zf_add, zf_aldI 100, zf_ald 0, zf_getR 18 23, zf_ic 4, zf_ild 1, zf_mul, zf_ic 2, zf_add, zf_aldI 100, zf_ic2 .ge 38, zf_ald 0, zf_getR 18 23, zf_ic 4, zf_ild 1, zf_mul, zf_ic 2, zf_add, zf_aldI 100, zf_ild 2, zf_sub, zf_go 50], 38),
  (38, [zf_ald 0, zf_getR 18 23, zf_ic 4, zf_ild 1, zf_mul, zf_ic 2, zf_add, zf_aldI 100, zf_ild 2, zf_add], 50),
  (50, [zf_reti], 51)]
theorem zT18_21 (h : Nat) : zTab h 18 21 3 (zt18_21 h) := zTab.mk (ret := (some .int)) (bl := xk18_21) (by decide +kernel) (by decide +kernel) rfl rfl
def zt18_22 (h : Nat) : ZB := [(0, [zf_ald 0, zf_getR 18 23, zf_ic 4, zf_ild 1, zf_mul, zf_ic 3, zf_add, zf_aldI 100, zf_ald 0, zf_getR 18 23, zf_ic 4, zf_ild 1, zf_mul, zf_ic 2, zf_add, zf_aldI 100, zf_sub, zf_ist 2, zf_ic 1, zf_ild 2, zf_if .ge 33, zf_ic 0, zf_ild 2, zf_sub, zf_go 34], 33),
  (33, [zf_ild 2], 34),
  (34, [zf_add, zf_reti], 36)]
theorem zT18_22 (h : Nat) : zTab h 18 22 3 (zt18_22 h) := zTab.mk (ret := (some .int)) (bl := xk18_22) (by decide +kernel) (by decide +kernel) rfl rfl
def zt18_23 (h : Nat) : ZB := [(0, [zf_ald 0, zf_ild 1, zf_if .lt 17, zf_ild 1, zf_ald 0, zf_getI 18 29, zf_ic2 .ge 17, zf_ic 0, zf_go 18], 17),
  (17, [zf_ic 1], 18),
  (18, [zf_putI 18 0, zf_ald 0, zf_getI 18 0, zf_if .ne 36, zf_ald 0, zf_ild 1, zf_inv h 18 25 1, zf_go 37], 36),
  (36, [zf_ic 0], 37),
  (37, [zf_reti], 38)]
theorem zT18_23 (h : Nat) : zTab h 18 23 2 (zt18_23 h) := zTab.mk (ret := (some .int)) (bl := xk18_23) (by decide +kernel) (by decide +kernel) rfl rfl
def zt18_24 (h : Nat) : ZB := [(0, [zf_ic 3520, zf_ild 2, zf_ic 900, zf_ic2 .lt 14, zf_ic 0, zf_go 19], 14),
  (14, [zf_ic 1000, zf_ild 1, zf_mul], 19),
  (19, [zf_add, zf_ild 2, zf_add, zf_reti], 23)]
theorem zT18_24 (h : Nat) : zTab h 18 24 3 (zt18_24 h) := zTab.mk (ret := (some .int)) (bl := xk18_24) (by decide +kernel) (by decide +kernel) rfl rfl
def zt18_25 (h : Nat) : ZB := [(0, [zf_ic (-1), zf_ist 2, zf_ic 0, zf_ist 3], 4),
  (4, [zf_ild 3, zf_ic 1000, zf_ic2 .ge 48, zf_ild 2, zf_ic (-1), zf_ic2 .eq 31, zf_ald 0, zf_getR 18 24, zf_ild 3, zf_aldI 100, zf_ald 0, zf_getR 18 24, zf_ild 2, zf_aldI 100, zf_ic2 .le 42], 31),
  (31, [zf_ald 0, zf_ild 1, zf_ild 3, zf_inv h 18 3 2, zf_if .eq 42, zf_ild 3, zf_ist 2], 42),
  (42, [zf_inc 3 1, zf_go 4], 48),
  (48, [zf_ic 0, zf_ist 3], 50),
  (50, [zf_ild 2, zf_ic (-1), zf_ic2 .ne 71, zf_ald 0, zf_getR 18 27, zf_ild 3, zf_aldI 100, zf_ild 1, zf_ic2 .eq 71, zf_inc 3 1, zf_go 50], 71),
  (71, [zf_ild 2, zf_ic (-1), zf_ic2 .ne 85, zf_ic (-1), zf_ild 3, zf_ic 16, zf_div, zf_sub, zf_go 86], 85),
  (85, [zf_ild 2], 86),
  (86, [zf_reti], 87)]
theorem zT18_25 (h : Nat) : zTab h 18 25 4 (zt18_25 h) := zTab.mk (ret := (some .int)) (bl := xk18_25) (by decide +kernel) (by decide +kernel) rfl rfl
def zt18_26 (h : Nat) : ZB := [(0, [zf_ild 1, zf_if .lt 12, zf_ild 1, zf_ald 0, zf_getI 18 15, zf_ic2 .lt 16], 12),
  (12, [zf_ic (-1), zf_go 27], 16),
  (16, [zf_ald 0, zf_ald 0, zf_getR 18 16, zf_ild 1, zf_aldI 100, zf_ild 2, zf_inv h 18 1 2], 27),
  (27, [zf_ist 3, zf_ald 0, zf_ild 3, zf_ic (-1), zf_ic2 .ne 38, zf_ic 1, zf_go 39], 38),
  (38, [zf_ic 0], 39),
  (39, [zf_putI 18 0, zf_ald 0, zf_getI 18 0, zf_if .ne 63, zf_ald 0, zf_getR 18 27, zf_ic 16, zf_ild 1, zf_mul, zf_ild 3, zf_add, zf_aldI 100, zf_go 64], 63),
  (63, [zf_ic 0], 64),
  (64, [zf_reti], 65)]
theorem zT18_26 (h : Nat) : zTab h 18 26 4 (zt18_26 h) := zTab.mk (ret := (some .int)) (bl := xk18_26) (by decide +kernel) (by decide +kernel) rfl rfl
def zt18_27 (h : Nat) : ZB := [(0, [zf_ald 0, zf_ic 0, zf_putI 18 0, zf_ald 0, zf_getI 18 29, zf_reti], 10)]
theorem zT18_27 (h : Nat) : zTab h 18 27 1 (zt18_27 h) := zTab.mk (ret := (some .int)) (bl := xk18_27) (by decide +kernel) (by decide +kernel) rfl rfl
def zt18_28 (h : Nat) : ZB := [(0, [zf_ic 0, zf_ist 1], 2),
  (2, [zf_ild 1, zf_ic 19520, zf_ic2 .ge 22, zf_ald 0, zf_getR 18 26, zf_ild 1, zf_ic (-1), zf_astI, zf_inc 1 1, zf_go 2], 22),
  (22, [zf_ic 0, zf_ist 1], 24),
  (24, [zf_ild 1, zf_ic 960, zf_ic2 .ge 44, zf_ald 0, zf_getR 18 27, zf_ild 1, zf_ic (-1), zf_astI, zf_inc 1 1, zf_go 24], 44),
  (44, [zf_ald 0, zf_ic 0, zf_putI 18 29, zf_ic 0, zf_ist 1], 51),
  (51, [zf_ild 1, zf_ald 0, zf_getI 18 15, zf_ic2 .ge 166, zf_ald 0, zf_getR 18 16, zf_ild 1, zf_aldI 100, zf_ist 2], 66),
  (66, [zf_ild 2, zf_ald 0, zf_getI 18 1, zf_ic2 .ge 160, zf_ald 0, zf_getR 18 3, zf_ild 2, zf_aldI 100, zf_ald 0, zf_getR 18 16, zf_ild 1, zf_aldI 100, zf_ic2 .eq 92, zf_go 154], 92),
  (92, [zf_ald 0, zf_ic 2560, zf_ic 16, zf_ild 1, zf_mul, zf_add, zf_ild 2, zf_add, zf_inv h 18 20 1, zf_ist 3, zf_ald 0, zf_getR 18 26, zf_ild 3, zf_aldI 100, zf_ic (-1), zf_ic2 .ne 137, zf_ald 0, zf_getR 18 26, zf_ild 3, zf_ald 0, zf_getI 18 29, zf_astI, zf_ald 0, zf_dup, zf_getI 18 29, zf_ic 1, zf_add, zf_putI 18 29], 137),
  (137, [zf_ald 0, zf_getR 18 27, zf_ic 16, zf_ild 1, zf_mul, zf_ild 2, zf_add, zf_ald 0, zf_getR 18 26, zf_ild 3, zf_aldI 100, zf_astI], 154),
  (154, [zf_inc 2 1, zf_go 66], 160),
  (160, [zf_inc 1 1, zf_go 51], 166),
  (166, [zf_ret], 167)]
theorem zT18_28 (h : Nat) : zTab h 18 28 4 (zt18_28 h) := zTab.mk (ret := none) (bl := xk18_28) (by decide +kernel) (by decide +kernel) rfl rfl
def zt18_29 (h : Nat) : ZB := [(0, [zf_ald 0, zf_ald 0, zf_ild 1, zf_lld 2, zf_lld 4, zf_inst h 18 10 2, zf_inv h 18 31 2, zf_putI 18 0, zf_ald 0, zf_getI 18 0, zf_if .eq 24, zf_ic 0, zf_reti], 24),
  (24, [zf_ald 0, zf_getI 18 15, zf_ic 60, zf_ic2 .ne 35, zf_ic (-1), zf_reti], 35),
  (35, [zf_ic 0, zf_ist 7], 38),
  (38, [zf_ild 7, zf_ald 0, zf_getI 18 15, zf_ic2 .ge 109, zf_ald 0, zf_getR 18 16, zf_ild 7, zf_aldI 100, zf_ild 1, zf_ic2 .ne 103, zf_ald 0, zf_getR 18 17, zf_ild 7, zf_aldI 100, zf_ild 6, zf_ic2 .ne 103, zf_ald 0, zf_getR 18 18, zf_ic 2, zf_ild 7, zf_mul, zf_aldL, zf_lld 2, zf_lcmp, zf_if .ne 103, zf_ald 0, zf_getR 18 18, zf_ic 2, zf_ild 7, zf_mul, zf_ic 1, zf_add, zf_aldL, zf_lld 4, zf_lcmp, zf_if .ne 103, zf_ic (-1), zf_reti], 103),
  (103, [zf_inc 7 1, zf_go 38], 109),
  (109, [zf_ald 0, zf_getR 18 16, zf_ald 0, zf_getI 18 15, zf_ild 1, zf_astI, zf_ald 0, zf_getR 18 17, zf_ald 0, zf_getI 18 15, zf_ild 6, zf_astI, zf_ald 0, zf_getR 18 18, zf_ic 2, zf_ald 0, zf_getI 18 15, zf_mul, zf_lld 2, zf_astL, zf_ald 0, zf_getR 18 18, zf_ic 2, zf_ald 0, zf_getI 18 15, zf_mul, zf_ic 1, zf_add, zf_lld 4, zf_astL, zf_ald 0, zf_dup, zf_getI 18 15, zf_ic 1, zf_add, zf_putI 18 15, zf_ald 0, zf_inv h 18 0 0, zf_ald 0, zf_getI 18 15, zf_ic 1, zf_sub, zf_reti], 178)]
theorem zT18_29 (h : Nat) : zTab h 18 29 8 (zt18_29 h) := zTab.mk (ret := (some .int)) (bl := xk18_29) (by decide +kernel) (by decide +kernel) rfl rfl
def zt18_30 (h : Nat) : ZB := [(0, [zf_ald 0, zf_ild 1, zf_inv h 18 11 1, zf_if .eq 39, zf_ild 2, zf_if .lt 39, zf_ild 2, zf_ald 0, zf_getI 18 11, zf_ic2 .ge 39, zf_ald 0, zf_getR 18 12, zf_ild 2, zf_aldI 100, zf_ald 0, zf_getR 18 3, zf_ild 1, zf_aldI 100, zf_ic2 .ne 39, zf_ic 1, zf_go 40], 39),
  (39, [zf_ic 0], 40),
  (40, [zf_ist 4, zf_ald 0, zf_ild 4, zf_if .ne 52, zf_ic 1, zf_go 78], 52),
  (52, [zf_ald 0, zf_getR 18 2, zf_ild 1, zf_aldI 100, zf_ic (-1), zf_ic2 .ne 66, zf_ic 2, zf_go 78], 66),
  (66, [zf_ild 3, zf_inst h 18 8 1, zf_if .eq 77, zf_ic 0, zf_go 78], 77),
  (77, [zf_ic 3], 78),
  (78, [zf_putI 18 0, zf_ald 0, zf_getI 18 0, zf_if .ne 97, zf_ald 0, zf_getI 18 20, zf_ic 30, zf_ic2 .ne 99], 97),
  (97, [zf_ic 0, zf_retz], 99),
  (99, [zf_ic 0, zf_ist 5], 102),
  (102, [zf_ild 5, zf_ald 0, zf_getI 18 20, zf_ic2 .ge 162, zf_ald 0, zf_getR 18 21, zf_ic 3, zf_ild 5, zf_mul, zf_aldI 100, zf_ild 1, zf_ic2 .ne 156, zf_ald 0, zf_getR 18 21, zf_ic 3, zf_ild 5, zf_mul, zf_ic 1, zf_add, zf_aldI 100, zf_ild 2, zf_ic2 .ne 156, zf_ald 0, zf_getR 18 21, zf_ic 3, zf_ild 5, zf_mul, zf_ic 2, zf_add, zf_aldI 100, zf_ild 3, zf_ic2 .ne 156, zf_ic 0, zf_retz], 156),
  (156, [zf_inc 5 1, zf_go 102], 162),
  (162, [zf_ald 0, zf_getR 18 21, zf_ic 3, zf_ald 0, zf_getI 18 20, zf_mul, zf_ild 1, zf_astI, zf_ald 0, zf_getR 18 21, zf_ic 3, zf_ald 0, zf_getI 18 20, zf_mul, zf_ic 1, zf_add, zf_ild 2, zf_astI, zf_ald 0, zf_getR 18 21, zf_ic 3, zf_ald 0, zf_getI 18 20, zf_mul, zf_ic 2, zf_add, zf_ild 3, zf_astI, zf_ald 0, zf_dup, zf_getI 18 20, zf_ic 1, zf_add, zf_putI 18 20, zf_ald 0, zf_inv h 18 0 0, zf_ic 1, zf_retz], 218)]
theorem zT18_30 (h : Nat) : zTab h 18 30 6 (zt18_30 h) := zTab.mk (ret := (some .boolean)) (bl := xk18_30) (by decide +kernel) (by decide +kernel) rfl rfl
def zt18_31 (h : Nat) : ZB := [(0, [zf_ald 0, zf_ild 1, zf_inv h 18 11 1, zf_if .ne 10, zf_ic 1, zf_reti], 10),
  (10, [zf_ald 0, zf_getR 18 3, zf_ild 1, zf_aldI 100, zf_ild 1, zf_ic2 .eq 24, zf_ic 2, zf_go 33], 24),
  (24, [zf_ild 2, zf_if .eq 32, zf_ic 0, zf_go 33], 32),
  (32, [zf_ic 3], 33),
  (33, [zf_reti], 34)]
theorem zT18_31 (h : Nat) : zTab h 18 31 3 (zt18_31 h) := zTab.mk (ret := (some .int)) (bl := xk18_31) (by decide +kernel) (by decide +kernel) rfl rfl
def zt18_32 (h : Nat) : ZB := [(0, [zf_ild 1, zf_ic (-1), zf_ic2 .eq 13, zf_ald 0, zf_ild 1, zf_inv h 18 11 1, zf_if .eq 30], 13),
  (13, [zf_ild 2, zf_ic (-1), zf_ic2 .eq 26, zf_ald 0, zf_ild 2, zf_inv h 18 11 1, zf_if .eq 30], 26),
  (26, [zf_ic 1, zf_go 31], 30),
  (30, [zf_ic 0], 31),
  (31, [zf_ist 3, zf_ald 0, zf_ild 3, zf_if .ne 41, zf_ic 1, zf_go 61], 41),
  (41, [zf_ild 2, zf_ic (-1), zf_ic2 .eq 60, zf_ald 0, zf_getR 18 3, zf_ild 2, zf_aldI 100, zf_ild 2, zf_ic2 .eq 60, zf_ic 2, zf_go 61], 60),
  (60, [zf_ic 0], 61),
  (61, [zf_putI 18 0, zf_ald 0, zf_getI 18 0, zf_if .eq 73, zf_ic 0, zf_reti], 73),
  (73, [zf_ald 0, zf_getI 18 1, zf_ic 16, zf_ic2 .ne 84, zf_ic (-1), zf_reti], 84),
  (84, [zf_ald 0, zf_getR 18 2, zf_ald 0, zf_getI 18 1, zf_ild 1, zf_astI, zf_ald 0, zf_getR 18 3, zf_ald 0, zf_getI 18 1, zf_ild 2, zf_ic (-1), zf_ic2 .ne 114, zf_ald 0, zf_getI 18 1, zf_go 115], 114),
  (114, [zf_ild 2], 115),
  (115, [zf_astI, zf_ald 0, zf_dup, zf_getI 18 1, zf_ic 1, zf_add, zf_putI 18 1, zf_ald 0, zf_inv h 18 0 0, zf_ald 0, zf_getI 18 1, zf_ic 1, zf_sub, zf_reti], 137)]
theorem zT18_32 (h : Nat) : zTab h 18 32 4 (zt18_32 h) := zTab.mk (ret := (some .int)) (bl := xk18_32) (by decide +kernel) (by decide +kernel) rfl rfl
def zt18_33 (h : Nat) : ZB := [(0, [zf_ald 0, zf_getI 18 0, zf_reti], 5)]
theorem zT18_33 (h : Nat) : zTab h 18 33 1 (zt18_33 h) := zTab.mk (ret := (some .int)) (bl := xk18_33) (by decide +kernel) (by decide +kernel) rfl rfl
def zt18_34 (h : Nat) : ZB := [(0, [zf_ald 0, zf_ic 0, zf_putI 18 0, zf_ild 1, zf_if .ge 11, zf_ic (-1), zf_reti], 11),
  (11, [zf_ild 1, zf_ist 2, zf_ic 0, zf_ist 3], 15),
  (15, [zf_ild 3, zf_ald 0, zf_getI 18 29, zf_ic2 .ge 94, zf_ald 0, zf_ild 3, zf_inv h 18 25 1, zf_ist 4, zf_ic 0, zf_ist 5], 33),
  (33, [zf_ild 5, zf_ic 1000, zf_ic2 .ge 88, zf_ild 4, zf_if .lt 88, zf_ild 5, zf_ild 4, zf_ic2 .eq 82, zf_ald 0, zf_ild 3, zf_ild 5, zf_inv h 18 3 2, zf_if .ne 66, zf_go 82], 66),
  (66, [zf_ild 2, zf_if .ne 79, zf_ic 1000, zf_ild 3, zf_mul, zf_ild 5, zf_add, zf_reti], 79),
  (79, [zf_inc 2 (-1)], 82),
  (82, [zf_inc 5 1, zf_go 33], 88),
  (88, [zf_inc 3 1, zf_go 15], 94),
  (94, [zf_ic 0, zf_ist 3], 96),
  (96, [zf_ild 3, zf_ald 0, zf_getI 18 11, zf_ic2 .ge 133, zf_ald 0, zf_ild 3, zf_inv h 18 6 1, zf_if .ne 115, zf_go 127], 115),
  (115, [zf_ild 2, zf_if .ne 124, zf_ic 100000000, zf_ild 3, zf_add, zf_reti], 124),
  (124, [zf_inc 2 (-1)], 127),
  (127, [zf_inc 3 1, zf_go 96], 133),
  (133, [zf_ic 0, zf_ist 3], 135),
  (135, [zf_ild 3, zf_ald 0, zf_getI 18 15, zf_ic2 .ge 181, zf_ald 0, zf_getR 18 19, zf_ild 3, zf_aldB, zf_if .eq 175, zf_ald 0, zf_ild 3, zf_inv h 18 7 1, zf_if .ne 163, zf_go 175], 163),
  (163, [zf_ild 2, zf_if .ne 172, zf_ic 200000000, zf_ild 3, zf_add, zf_reti], 172),
  (172, [zf_inc 2 (-1)], 175),
  (175, [zf_inc 3 1, zf_go 135], 181),
  (181, [zf_ic (-1), zf_reti], 183)]
theorem zT18_34 (h : Nat) : zTab h 18 34 6 (zt18_34 h) := zTab.mk (ret := (some .int)) (bl := xk18_34) (by decide +kernel) (by decide +kernel) rfl rfl
def zt18_35 (h : Nat) : ZB := [(0, [zf_ic 0, zf_ist 2], 2),
  (2, [zf_ald 0, zf_getR 18 27, zf_ild 2, zf_aldI 100, zf_ild 1, zf_ic2 .eq 18, zf_inc 2 1, zf_go 2], 18),
  (18, [zf_ald 0, zf_getR 18 28, zf_ild 2, zf_aldI 100, zf_ist 3, zf_ild 3, zf_ic (-1), zf_ic2 .ne 32, zf_ic 0, zf_retz], 32),
  (32, [zf_ic 1, zf_ist 4, zf_ic 0, zf_ist 5], 38),
  (38, [zf_ild 5, zf_ic 960, zf_ic2 .ge 99, zf_ild 4, zf_if .eq 90, zf_ald 0, zf_getR 18 27, zf_ild 5, zf_aldI 100, zf_ild 1, zf_ic2 .ne 66, zf_ic 1, zf_go 67], 66),
  (66, [zf_ic 0], 67),
  (67, [zf_ald 0, zf_getR 18 28, zf_ild 5, zf_aldI 100, zf_ild 3, zf_ic2 .ne 82, zf_ic 1, zf_go 83], 82),
  (82, [zf_ic 0], 83),
  (83, [zf_ic2 .ne 90, zf_ic 1, zf_go 91], 90),
  (90, [zf_ic 0], 91),
  (91, [zf_ist 4, zf_inc 5 1, zf_go 38], 99),
  (99, [zf_ild 4, zf_retz], 102)]
theorem zT18_35 (h : Nat) : zTab h 18 35 6 (zt18_35 h) := zTab.mk (ret := (some .boolean)) (bl := xk18_35) (by decide +kernel) (by decide +kernel) rfl rfl
def zt18_36 (h : Nat) : ZB := [(0, [zf_ald 0, zf_ald 0, zf_ild 1, zf_lld 2, zf_lld 4, zf_inst h 18 10 2, zf_if .eq 41, zf_lld 6, zf_lld 8, zf_inst h 18 10 2, zf_if .eq 41, zf_lld 2, zf_lld 6, zf_lcmp, zf_if .ne 37, zf_lld 4, zf_lld 8, zf_lcmp, zf_if .eq 41], 37),
  (37, [zf_ic 1, zf_go 42], 41),
  (41, [zf_ic 0], 42),
  (42, [zf_inv h 18 31 2, zf_putI 18 0, zf_ald 0, zf_getI 18 0, zf_if .eq 57, zf_ic 0, zf_reti], 57),
  (57, [zf_ald 0, zf_getI 18 4, zf_ic 100, zf_ic2 .ne 68, zf_ic (-1), zf_reti], 68),
  (68, [zf_ald 0, zf_getR 18 5, zf_ald 0, zf_getI 18 4, zf_ild 1, zf_astI, zf_ald 0, zf_getR 18 6, zf_ic 4, zf_ald 0, zf_getI 18 4, zf_mul, zf_lld 2, zf_astL, zf_ald 0, zf_getR 18 6, zf_ic 4, zf_ald 0, zf_getI 18 4, zf_mul, zf_ic 1, zf_add, zf_lld 4, zf_astL, zf_ald 0, zf_getR 18 6, zf_ic 4, zf_ald 0, zf_getI 18 4, zf_mul, zf_ic 2, zf_add, zf_lld 6, zf_astL, zf_ald 0, zf_getR 18 6, zf_ic 4, zf_ald 0, zf_getI 18 4, zf_mul, zf_ic 3, zf_add, zf_lld 8, zf_astL, zf_ald 0, zf_dup, zf_getI 18 4, zf_ic 1, zf_add, zf_putI 18 4, zf_ald 0, zf_inv h 18 0 0, zf_ald 0, zf_getI 18 4, zf_ic 1, zf_sub, zf_reti], 156)]
theorem zT18_36 (h : Nat) : zTab h 18 36 10 (zt18_36 h) := zTab.mk (ret := (some .int)) (bl := xk18_36) (by decide +kernel) (by decide +kernel) rfl rfl
def zt19_0 (h : Nat) : ZB := [(0, [zf_ald 0, zf_ald 0, zf_ild 1, zf_inv h 19 18 1, zf_if .ne 13, zf_ic 1, zf_go 37], 13),
  (13, [zf_ild 2, zf_if .lt 36, zf_ild 2, zf_ic 16, zf_ic2 .ge 36, zf_ild 3, zf_if .lt 36, zf_ild 3, zf_ic 4, zf_ic2 .ge 36, zf_ic 0, zf_go 37], 36),
  (36, [zf_ic 2], 37),
  (37, [zf_putI 19 0, zf_ald 0, zf_getI 19 0, zf_if .eq 49, zf_ic 0, zf_reti], 49),
  (49, [zf_ald 0, zf_getR 19 19, zf_ic 16, zf_ild 1, zf_mul, zf_ild 2, zf_add, zf_ic 1, zf_ild 3, zf_add, zf_astI, zf_ald 0, zf_ild 1, zf_ic 0, zf_ild 2, zf_ild 3, zf_inv h 19 22 4, zf_ald 0, zf_ild 1, zf_inv h 19 15 1, zf_if .eq 83, zf_ic 1, zf_go 84], 83),
  (83, [zf_ic 0], 84),
  (84, [zf_reti], 85)]
theorem zT19_0 (h : Nat) : zTab h 19 0 4 (zt19_0 h) := zTab.mk (ret := (some .int)) (bl := xk19_0) (by decide +kernel) (by decide +kernel) rfl rfl
def zt19_1 (h : Nat) : ZB := [(0, [zf_ald 0, zf_ild 1, zf_putI 19 29, zf_ald 0, zf_ic 0, zf_putI 19 30, zf_ald 0, zf_ic (-1), zf_putI 19 31, zf_ret], 16)]
theorem zT19_1 (h : Nat) : zTab h 19 1 2 (zt19_1 h) := zTab.mk (ret := none) (bl := xk19_1) (by decide +kernel) (by decide +kernel) rfl rfl
def zt19_2 (h : Nat) : ZB := [(0, [zf_ic 0, zf_ist 2], 2),
  (2, [zf_ild 2, zf_ic 16, zf_ic2 .ge 68, zf_ild 1, zf_ic 4, zf_ild 2, zf_mul, zf_add, zf_ist 3, zf_ald 0, zf_getR 19 4, zf_ild 2, zf_ald 0, zf_getR 19 3, zf_ild 3, zf_aldI 100, zf_ic 24, zf_bit zshl, zf_ald 0, zf_getR 19 3, zf_ild 3, zf_ic 1, zf_add, zf_aldI 100, zf_ic 16, zf_bit zshl, zf_bit zor, zf_ald 0, zf_getR 19 3, zf_ild 3, zf_ic 2, zf_add, zf_aldI 100, zf_ic 8, zf_bit zshl, zf_bit zor, zf_ald 0, zf_getR 19 3, zf_ild 3, zf_ic 3, zf_add, zf_aldI 100, zf_bit zor, zf_astI, zf_inc 2 1, zf_go 2], 68),
  (68, [zf_ic 16, zf_ist 2], 71),
  (71, [zf_ild 2, zf_ic 64, zf_ic2 .ge 176, zf_ald 0, zf_getR 19 4, zf_ild 2, zf_ic 15, zf_sub, zf_aldI 100, zf_ist 3, zf_ald 0, zf_getR 19 4, zf_ild 2, zf_ic 2, zf_sub, zf_aldI 100, zf_ist 4, zf_ild 3, zf_ic 7, zf_inst h 19 34 2, zf_ild 3, zf_ic 18, zf_inst h 19 34 2, zf_bit zxor, zf_ild 3, zf_ic 3, zf_bit zushr, zf_bit zxor, zf_ist 5, zf_ild 4, zf_ic 17, zf_inst h 19 34 2, zf_ild 4, zf_ic 19, zf_inst h 19 34 2, zf_bit zxor, zf_ild 4, zf_ic 10, zf_bit zushr, zf_bit zxor, zf_ist 6, zf_ald 0, zf_getR 19 4, zf_ild 2, zf_ald 0, zf_getR 19 4, zf_ild 2, zf_ic 16, zf_sub, zf_aldI 100, zf_ild 5, zf_add, zf_ald 0, zf_getR 19 4, zf_ild 2, zf_ic 7, zf_sub, zf_aldI 100, zf_add, zf_ild 6, zf_add, zf_astI, zf_inc 2 1, zf_go 71], 176),
  (176, [zf_ic 0, zf_ist 2], 178),
  (178, [zf_ild 2, zf_ic 8, zf_ic2 .ge 202, zf_ald 0, zf_getR 19 6, zf_ild 2, zf_ald 0, zf_getR 19 5, zf_ild 2, zf_aldI 100, zf_astI, zf_inc 2 1, zf_go 178], 202),
  (202, [zf_ic 0, zf_ist 2], 204),
  (204, [zf_ild 2, zf_ic 64, zf_ic2 .ge 419, zf_ald 0, zf_getR 19 6, zf_ic 4, zf_aldI 100, zf_ist 3, zf_ald 0, zf_getR 19 6, zf_ic 0, zf_aldI 100, zf_ist 4, zf_ild 3, zf_ic 6, zf_inst h 19 34 2, zf_ild 3, zf_ic 11, zf_inst h 19 34 2, zf_bit zxor, zf_ild 3, zf_ic 25, zf_inst h 19 34 2, zf_bit zxor, zf_ist 5, zf_ild 3, zf_ald 0, zf_getR 19 6, zf_ic 5, zf_aldI 100, zf_bit zand, zf_ild 3, zf_ic (-1), zf_bit zxor, zf_ald 0, zf_getR 19 6, zf_ic 6, zf_aldI 100, zf_bit zand, zf_bit zxor, zf_ist 6, zf_ald 0, zf_getR 19 6, zf_ic 7, zf_aldI 100, zf_ild 5, zf_add, zf_ild 6, zf_add, zf_ald 0, zf_getR 19 1, zf_ild 2, zf_aldI 100, zf_add, zf_ald 0, zf_getR 19 4, zf_ild 2, zf_aldI 100, zf_add, zf_ist 7, zf_ild 4, zf_ic 2, zf_inst h 19 34 2, zf_ild 4, zf_ic 13, zf_inst h 19 34 2, zf_bit zxor, zf_ild 4, zf_ic 22, zf_inst h 19 34 2, zf_bit zxor, zf_ist 8, zf_ild 4, zf_ald 0, zf_getR 19 6, zf_ic 1, zf_aldI 100, zf_bit zand, zf_ild 4, zf_ald 0, zf_getR 19 6, zf_ic 2, zf_aldI 100, zf_bit zand, zf_bit zxor, zf_ald 0, zf_getR 19 6, zf_ic 1, zf_aldI 100, zf_ald 0, zf_getR 19 6, zf_ic 2, zf_aldI 100, zf_bit zand, zf_bit zxor, zf_ist 9, zf_ic 7, zf_ist 10], 361),
  (361, [zf_ild 10, zf_if .le 388, zf_ald 0, zf_getR 19 6, zf_ild 10, zf_ald 0, zf_getR 19 6, zf_ild 10, zf_ic 1, zf_sub, zf_aldI 100, zf_astI, zf_inc 10 (-1), zf_go 361], 388),
  (388, [zf_ald 0, zf_getR 19 6, zf_ic 4, zf_dup2, zf_aldI 100, zf_ild 7, zf_add, zf_astI, zf_ald 0, zf_getR 19 6, zf_ic 0, zf_ild 7, zf_ild 8, zf_add, zf_ild 9, zf_add, zf_astI, zf_inc 2 1, zf_go 204], 419),
  (419, [zf_ic 0, zf_ist 2], 421),
  (421, [zf_ild 2, zf_ic 8, zf_ic2 .ge 448, zf_ald 0, zf_getR 19 5, zf_ild 2, zf_dup2, zf_aldI 100, zf_ald 0, zf_getR 19 6, zf_ild 2, zf_aldI 100, zf_add, zf_astI, zf_inc 2 1, zf_go 421], 448),
  (448, [zf_ret], 449)]
theorem zT19_2 (h : Nat) : zTab h 19 2 11 (zt19_2 h) := zTab.mk (ret := none) (bl := xk19_2) (by decide +kernel) (by decide +kernel) rfl rfl
def zt19_3 (h : Nat) : ZB := [(0, [zf_ald 0, zf_ild 1, zf_if .lt 16, zf_ild 1, zf_ald 0, zf_getR 19 9, zf_ic 10, zf_aldI 100, zf_ic2 .lt 20], 16),
  (16, [zf_ic 1, zf_go 32], 20),
  (20, [zf_ild 2, zf_inst h 19 16 1, zf_if .eq 31, zf_ic 0, zf_go 32], 31),
  (31, [zf_ic 2], 32),
  (32, [zf_putI 19 0, zf_ic 80, zf_ild 1, zf_add, zf_ist 3, zf_ald 0, zf_getI 19 0, zf_if .ne 58, zf_ald 0, zf_getR 19 11, zf_ild 3, zf_aldI 100, zf_ic 64, zf_ic2 .ne 60], 58),
  (58, [zf_ic 0, zf_retz], 60),
  (60, [zf_ald 0, zf_getR 19 12, zf_ic 64, zf_ild 3, zf_mul, zf_ald 0, zf_getR 19 11, zf_ild 3, zf_aldI 100, zf_add, zf_ild 2, zf_astI, zf_ald 0, zf_getR 19 11, zf_ild 3, zf_dup2, zf_aldI 100, zf_ic 1, zf_add, zf_astI, zf_ic 1, zf_retz], 89)]
theorem zT19_3 (h : Nat) : zTab h 19 3 4 (zt19_3 h) := zTab.mk (ret := (some .boolean)) (bl := xk19_3) (by decide +kernel) (by decide +kernel) rfl rfl
def zt19_4 (h : Nat) : ZB := [(0, [zf_ald 0, zf_ic 0, zf_putI 19 0, zf_ild 1, zf_inst h 19 16 1, zf_if .eq 22, zf_ald 0, zf_getI 19 17, zf_ic 300, zf_ic2 .ne 24], 22),
  (22, [zf_ic 0, zf_retz], 24),
  (24, [zf_ald 0, zf_getR 19 18, zf_ald 0, zf_getI 19 17, zf_ild 1, zf_astI, zf_ald 0, zf_dup, zf_getI 19 17, zf_ic 1, zf_add, zf_putI 19 17, zf_ic 1, zf_retz], 46)]
theorem zT19_4 (h : Nat) : zTab h 19 4 2 (zt19_4 h) := zTab.mk (ret := (some .boolean)) (bl := xk19_4) (by decide +kernel) (by decide +kernel) rfl rfl
def zt19_5 (h : Nat) : ZB := [(0, [zf_ald 0, zf_ic 0, zf_putI 19 0, zf_ald 0, zf_inv h 19 13 0, zf_if .eq 16, zf_ic 1, zf_go 17], 16),
  (16, [zf_ic 0], 17),
  (17, [zf_reti], 18)]
theorem zT19_5 (h : Nat) : zTab h 19 5 1 (zt19_5 h) := zTab.mk (ret := (some .int)) (bl := xk19_5) (by decide +kernel) (by decide +kernel) rfl rfl
def zt19_6 (h : Nat) : ZB := [(0, [zf_ald 0, zf_ic 0, zf_putI 19 0, zf_ald 0, zf_ic 0, zf_putI 19 17, zf_ret], 11)]
theorem zT19_6 (h : Nat) : zTab h 19 6 1 (zt19_6 h) := zTab.mk (ret := none) (bl := xk19_6) (by decide +kernel) (by decide +kernel) rfl rfl
def zt19_7 (h : Nat) : ZB := [(0, [zf_ald 0, zf_ic 0, zf_putI 19 0, zf_ald 0, zf_getI 19 8, zf_ic 10, zf_ic2 .ne 16, zf_ic (-1), zf_reti], 16),
  (16, [zf_ald 0, zf_getI 19 8, zf_ist 1, zf_ic (-1), zf_ist 2, zf_ic 0, zf_ist 3], 25),
  (25, [zf_ild 3, zf_ald 0, zf_getR 19 9, zf_ic 10, zf_aldI 100, zf_ic2 .ge 174, zf_ic 80, zf_ald 0, zf_ild 2, zf_inv h 19 21 1, zf_add, zf_ist 4, zf_ic 8, zf_ild 1, zf_mul, zf_ild 3, zf_add, zf_ist 5, zf_ald 0, zf_getR 19 10, zf_ild 4, zf_aldI 100, zf_ist 2, zf_ald 0, zf_getR 19 10, zf_ild 5, zf_ild 2, zf_astI, zf_ald 0, zf_getR 19 11, zf_ild 5, zf_ald 0, zf_getR 19 11, zf_ild 4, zf_aldI 100, zf_astI, zf_ic 0, zf_ist 6], 87),
  (87, [zf_ild 6, zf_ic 64, zf_ic2 .ge 126, zf_ald 0, zf_getR 19 12, zf_ic 64, zf_ild 5, zf_mul, zf_ild 6, zf_add, zf_ald 0, zf_getR 19 12, zf_ic 64, zf_ild 4, zf_mul, zf_ild 6, zf_add, zf_aldI 100, zf_astI, zf_inc 6 1, zf_go 87], 126),
  (126, [zf_ald 0, zf_ild 5, zf_inv h 19 9 1, zf_ic 0, zf_ist 6], 135),
  (135, [zf_ild 6, zf_ic 32, zf_ic2 .ge 168, zf_ald 0, zf_getR 19 13, zf_ic 32, zf_ild 5, zf_mul, zf_ild 6, zf_add, zf_ald 0, zf_getR 19 7, zf_ild 6, zf_aldI 100, zf_astI, zf_inc 6 1, zf_go 135], 168),
  (168, [zf_inc 3 1, zf_go 25], 174),
  (174, [zf_ald 0, zf_getR 19 9, zf_ild 1, zf_ald 0, zf_getR 19 9, zf_ic 10, zf_aldI 100, zf_astI, zf_ald 0, zf_getR 19 9, zf_ic 10, zf_ic 0, zf_astI, zf_ald 0, zf_dup, zf_getI 19 8, zf_ic 1, zf_add, zf_putI 19 8, zf_ald 0, zf_ild 1, zf_inv h 19 19 1], 210),
  (210, [zf_ald 0, zf_getI 19 15, zf_ic 1, zf_ic2 .le 225, zf_ald 0, zf_inv h 19 12 0, zf_go 210], 225),
  (225, [zf_ald 0, zf_getI 19 15, zf_if .ne 236, zf_ald 0, zf_inv h 19 8 0], 236),
  (236, [zf_ic 0, zf_ist 3], 238),
  (238, [zf_ild 3, zf_ic 32, zf_ic2 .ge 283, zf_ald 0, zf_getR 19 14, zf_ic 32, zf_ild 1, zf_mul, zf_ild 3, zf_add, zf_ald 0, zf_getI 19 15, zf_if .ne 270, zf_ald 0, zf_getR 19 7, zf_ild 3, zf_aldI 100, zf_go 276], 270),
  (270, [zf_ald 0, zf_getR 19 16, zf_ild 3, zf_aldI 100], 276),
  (276, [zf_astI, zf_inc 3 1, zf_go 238], 283),
  (283, [zf_ild 1, zf_reti], 285)]
theorem zT19_7 (h : Nat) : zTab h 19 7 7 (zt19_7 h) := zTab.mk (ret := (some .int)) (bl := xk19_7) (by decide +kernel) (by decide +kernel) rfl rfl
def zt19_8 (h : Nat) : ZB := [(0, [zf_ald 0, zf_getI 19 2, zf_ist 1, zf_ald 0, zf_ic 128, zf_inv h 19 25 1], 12),
  (12, [zf_ald 0, zf_getI 19 2, zf_ic 64, zf_rem, zf_ic 56, zf_ic2 .eq 32, zf_ald 0, zf_ic 0, zf_inv h 19 25 1, zf_go 12], 32),
  (32, [zf_ic 0, zf_ist 2], 34),
  (34, [zf_ild 2, zf_ic 4, zf_ic2 .ge 50, zf_ald 0, zf_ic 0, zf_inv h 19 25 1, zf_inc 2 1, zf_go 34], 50),
  (50, [zf_ic 24, zf_ist 2], 53),
  (53, [zf_ild 2, zf_if .lt 77, zf_ald 0, zf_ic 8, zf_ild 1, zf_mul, zf_ild 2, zf_bit zshr, zf_ic 255, zf_bit zand, zf_inv h 19 25 1, zf_inc 2 (-8), zf_go 53], 77),
  (77, [zf_ald 0, zf_getR 19 5, zf_ic 0, zf_ic 1779033703, zf_astI, zf_ald 0, zf_getR 19 5, zf_ic 1, zf_ic (-1150833019), zf_astI, zf_ald 0, zf_getR 19 5, zf_ic 2, zf_ic 1013904242, zf_astI, zf_ald 0, zf_getR 19 5, zf_ic 3, zf_ic (-1521486534), zf_astI, zf_ald 0, zf_getR 19 5, zf_ic 4, zf_ic 1359893119, zf_astI, zf_ald 0, zf_getR 19 5, zf_ic 5, zf_ic (-1694144372), zf_astI, zf_ald 0, zf_getR 19 5, zf_ic 6, zf_ic 528734635, zf_astI, zf_ald 0, zf_getR 19 5, zf_ic 7, zf_ic 1541459225, zf_astI, zf_ic 0, zf_ist 2], 145),
  (145, [zf_ild 2, zf_ald 0, zf_getI 19 2, zf_ic2 .ge 164, zf_ald 0, zf_ild 2, zf_inv h 19 2 1, zf_inc 2 64, zf_go 145], 164),
  (164, [zf_ic 0, zf_ist 2], 166),
  (166, [zf_ild 2, zf_ic 32, zf_ic2 .ge 206, zf_ald 0, zf_getR 19 7, zf_ild 2, zf_ald 0, zf_getR 19 5, zf_ild 2, zf_ic 4, zf_div, zf_aldI 100, zf_ic 24, zf_ic 8, zf_ild 2, zf_ic 4, zf_rem, zf_mul, zf_sub, zf_bit zshr, zf_ic 255, zf_bit zand, zf_astI, zf_inc 2 1, zf_go 166], 206),
  (206, [zf_ald 0, zf_ic 0, zf_putI 19 2, zf_ret], 212)]
theorem zT19_8 (h : Nat) : zTab h 19 8 3 (zt19_8 h) := zTab.mk (ret := none) (bl := xk19_8) (by decide +kernel) (by decide +kernel) rfl rfl
def zt19_9 (h : Nat) : ZB := [(0, [zf_ald 0, zf_ic 0, zf_inv h 19 25 1, zf_ald 0, zf_ald 0, zf_getR 19 10, zf_ild 1, zf_aldI 100, zf_ic 8, zf_bit zshr, zf_inv h 19 25 1, zf_ald 0, zf_ald 0, zf_getR 19 10, zf_ild 1, zf_aldI 100, zf_ic 255, zf_bit zand, zf_inv h 19 25 1, zf_ic 0, zf_ist 2], 34),
  (34, [zf_ild 2, zf_ald 0, zf_getR 19 11, zf_ild 1, zf_aldI 100, zf_ic2 .ge 65, zf_ald 0, zf_ald 0, zf_getR 19 12, zf_ic 64, zf_ild 1, zf_mul, zf_ild 2, zf_add, zf_aldI 100, zf_inv h 19 25 1, zf_inc 2 1, zf_go 34], 65),
  (65, [zf_ald 0, zf_inv h 19 8 0, zf_ret], 70)]
theorem zT19_9 (h : Nat) : zTab h 19 9 3 (zt19_9 h) := zTab.mk (ret := none) (bl := xk19_9) (by decide +kernel) (by decide +kernel) rfl rfl
def zt19_10 (h : Nat) : ZB := [(0, [zf_ald 0, zf_ild 1, zf_if .lt 15, zf_ild 1, zf_ic 65536, zf_ic2 .ge 15, zf_ic 0, zf_go 16], 15),
  (15, [zf_ic 1], 16),
  (16, [zf_putI 19 0, zf_ald 0, zf_getI 19 0, zf_if .eq 28, zf_ic 0, zf_reti], 28),
  (28, [zf_ald 0, zf_getR 19 9, zf_ic 10, zf_aldI 100, zf_ic 8, zf_ic2 .eq 51, zf_ald 0, zf_ic 10, zf_ild 1, zf_inv h 19 11 2, zf_ic (-1), zf_ic2 .eq 53], 51),
  (51, [zf_ic (-1), zf_reti], 53),
  (53, [zf_ald 0, zf_getR 19 10, zf_ic 80, zf_ald 0, zf_getR 19 9, zf_ic 10, zf_aldI 100, zf_add, zf_ild 1, zf_astI, zf_ald 0, zf_getR 19 11, zf_ic 80, zf_ald 0, zf_getR 19 9, zf_ic 10, zf_aldI 100, zf_add, zf_ic 0, zf_astI, zf_ald 0, zf_getR 19 9, zf_ic 10, zf_dup2, zf_aldI 100, zf_ic 1, zf_add, zf_astI, zf_ald 0, zf_getR 19 9, zf_ic 10, zf_aldI 100, zf_ic 1, zf_sub, zf_reti], 106)]
theorem zT19_10 (h : Nat) : zTab h 19 10 2 (zt19_10 h) := zTab.mk (ret := (some .int)) (bl := xk19_10) (by decide +kernel) (by decide +kernel) rfl rfl
def zt19_11 (h : Nat) : ZB := [(0, [zf_ic 0, zf_ist 3], 2),
  (2, [zf_ild 3, zf_ald 0, zf_getR 19 9, zf_ild 1, zf_aldI 100, zf_ic2 .ge 35, zf_ald 0, zf_getR 19 10, zf_ic 8, zf_ild 1, zf_mul, zf_ild 3, zf_add, zf_aldI 100, zf_ild 2, zf_ic2 .ne 29, zf_ild 3, zf_reti], 29),
  (29, [zf_inc 3 1, zf_go 2], 35),
  (35, [zf_ic (-1), zf_reti], 37)]
theorem zT19_11 (h : Nat) : zTab h 19 11 4 (zt19_11 h) := zTab.mk (ret := (some .int)) (bl := xk19_11) (by decide +kernel) (by decide +kernel) rfl rfl
def zt19_12 (h : Nat) : ZB := [(0, [zf_ic 0, zf_ist 1], 2),
  (2, [zf_ild 1, zf_ald 0, zf_getI 19 15, zf_ic2 .ge 132, zf_ild 1, zf_ic 1, zf_add, zf_ald 0, zf_getI 19 15, zf_ic2 .ne 59, zf_ic 0, zf_ist 2], 22),
  (22, [zf_ild 2, zf_ic 32, zf_ic2 .ge 56, zf_ald 0, zf_getR 19 16, zf_ic 16, zf_ild 1, zf_mul, zf_ild 2, zf_add, zf_ald 0, zf_getR 19 16, zf_ic 32, zf_ild 1, zf_mul, zf_ild 2, zf_add, zf_aldI 100, zf_astI, zf_inc 2 1, zf_go 22], 56),
  (56, [zf_go 126], 59),
  (59, [zf_ald 0, zf_ic 1, zf_inv h 19 25 1, zf_ald 0, zf_ald 0, zf_getR 19 16, zf_ic 32, zf_ild 1, zf_mul, zf_inv h 19 26 2, zf_ald 0, zf_ald 0, zf_getR 19 16, zf_ic 32, zf_ild 1, zf_mul, zf_ic 32, zf_add, zf_inv h 19 26 2, zf_ald 0, zf_inv h 19 8 0, zf_ic 0, zf_ist 2], 97),
  (97, [zf_ild 2, zf_ic 32, zf_ic2 .ge 126, zf_ald 0, zf_getR 19 16, zf_ic 16, zf_ild 1, zf_mul, zf_ild 2, zf_add, zf_ald 0, zf_getR 19 7, zf_ild 2, zf_aldI 100, zf_astI, zf_inc 2 1, zf_go 97], 126),
  (126, [zf_inc 1 2, zf_go 2], 132),
  (132, [zf_ald 0, zf_ald 0, zf_getI 19 15, zf_ic 1, zf_add, zf_ic 2, zf_div, zf_putI 19 15, zf_ret], 145)]
theorem zT19_12 (h : Nat) : zTab h 19 12 3 (zt19_12 h) := zTab.mk (ret := none) (bl := xk19_12) (by decide +kernel) (by decide +kernel) rfl rfl
def zt19_13 (h : Nat) : ZB := [(0, [zf_ald 0, zf_getI 19 17, zf_ic 5, zf_ic2 .lt 21, zf_ald 0, zf_ald 0, zf_getR 19 18, zf_ic 0, zf_aldI 100, zf_inv h 19 18 1, zf_if .ne 23], 21),
  (21, [zf_ic 0, zf_retz], 23),
  (23, [zf_ald 0, zf_getR 19 18, zf_ic 3, zf_aldI 100, zf_ist 1, zf_ild 1, zf_ic 64, zf_ic2 .gt 68, zf_ic 5, zf_ild 1, zf_add, zf_ald 0, zf_getI 19 17, zf_ic2 .gt 68, zf_ald 0, zf_getI 19 17, zf_ic 5, zf_ild 1, zf_add, zf_ic 33, zf_ald 0, zf_getR 19 18, zf_ic 4, zf_ild 1, zf_add, zf_aldI 100, zf_mul, zf_add, zf_ic2 .eq 70], 68),
  (68, [zf_ic 0, zf_retz], 70),
  (70, [zf_ald 0, zf_ic 0, zf_inv h 19 25 1, zf_ald 0, zf_ald 0, zf_getR 19 18, zf_ic 1, zf_aldI 100, zf_inv h 19 25 1, zf_ald 0, zf_ald 0, zf_getR 19 18, zf_ic 2, zf_aldI 100, zf_inv h 19 25 1, zf_ic 0, zf_ist 2], 97),
  (97, [zf_ild 2, zf_ild 1, zf_ic2 .ge 120, zf_ald 0, zf_ald 0, zf_getR 19 18, zf_ic 4, zf_ild 2, zf_add, zf_aldI 100, zf_inv h 19 25 1, zf_inc 2 1, zf_go 97], 120),
  (120, [zf_ald 0, zf_inv h 19 8 0, zf_ic 0, zf_ist 2], 126),
  (126, [zf_ild 2, zf_ic 32, zf_ic2 .ge 150, zf_ald 0, zf_getR 19 16, zf_ild 2, zf_ald 0, zf_getR 19 7, zf_ild 2, zf_aldI 100, zf_astI, zf_inc 2 1, zf_go 126], 150),
  (150, [zf_ic 1, zf_ist 2, zf_ic 5, zf_ild 1, zf_add, zf_ist 3], 156),
  (156, [zf_ild 3, zf_ald 0, zf_getI 19 17, zf_ic2 .ge 278, zf_ild 2, zf_if .eq 278, zf_ald 0, zf_getR 19 18, zf_ild 3, zf_aldI 100, zf_ic 2, zf_ic2 .ge 182, zf_ic 1, zf_go 183], 182),
  (182, [zf_ic 0], 183),
  (183, [zf_ist 2, zf_ald 0, zf_ic 1, zf_inv h 19 25 1, zf_ald 0, zf_getR 19 18, zf_ild 3, zf_aldI 100, zf_if .ne 209, zf_ald 0, zf_ald 0, zf_getR 19 18, zf_ild 3, zf_ic 1, zf_add, zf_inv h 19 26 2], 209),
  (209, [zf_ald 0, zf_ald 0, zf_getR 19 16, zf_ic 0, zf_inv h 19 26 2, zf_ald 0, zf_getR 19 18, zf_ild 3, zf_aldI 100, zf_if .eq 238, zf_ald 0, zf_ald 0, zf_getR 19 18, zf_ild 3, zf_ic 1, zf_add, zf_inv h 19 26 2], 238),
  (238, [zf_ald 0, zf_inv h 19 8 0, zf_ic 0, zf_ist 4], 245),
  (245, [zf_ild 4, zf_ic 32, zf_ic2 .ge 272, zf_ald 0, zf_getR 19 16, zf_ild 4, zf_ald 0, zf_getR 19 7, zf_ild 4, zf_aldI 100, zf_astI, zf_inc 4 1, zf_go 245], 272),
  (272, [zf_inc 3 33, zf_go 156], 278),
  (278, [zf_ic 0, zf_ist 3], 280),
  (280, [zf_ild 3, zf_ic 32, zf_ic2 .ge 327, zf_ild 2, zf_if .eq 319, zf_ald 0, zf_getR 19 16, zf_ild 3, zf_aldI 100, zf_ald 0, zf_getR 19 14, zf_ic 32, zf_ald 0, zf_getR 19 18, zf_ic 0, zf_aldI 100, zf_mul, zf_ild 3, zf_add, zf_aldI 100, zf_ic2 .ne 319, zf_ic 1, zf_go 320], 319),
  (319, [zf_ic 0], 320),
  (320, [zf_ist 2, zf_inc 3 1, zf_go 280], 327),
  (327, [zf_ild 2, zf_retz], 329)]
theorem zT19_13 (h : Nat) : zTab h 19 13 5 (zt19_13 h) := zTab.mk (ret := (some .boolean)) (bl := xk19_13) (by decide +kernel) (by decide +kernel) rfl rfl
def zt19_15 (h : Nat) : ZB := [(0, [zf_ic 0, zf_ist 2, zf_ic 0, zf_ist 3], 4),
  (4, [zf_ild 3, zf_ic 16, zf_ic2 .ge 50, zf_ald 0, zf_getR 19 19, zf_ic 16, zf_ild 1, zf_mul, zf_ild 3, zf_add, zf_aldI 100, zf_if .le 42, zf_ild 2, zf_ic 1, zf_ald 0, zf_getR 19 19, zf_ic 16, zf_ild 1, zf_mul, zf_ild 3, zf_add, zf_aldI 100, zf_bit zshl, zf_bit zor, zf_go 43], 42),
  (42, [zf_ild 2], 43),
  (43, [zf_ist 2, zf_inc 3 1, zf_go 4], 50),
  (50, [zf_ild 2, zf_ild 2, zf_ic 1, zf_sub, zf_bit zand, zf_if .eq 62, zf_ic 1, zf_go 63], 62),
  (62, [zf_ic 0], 63),
  (63, [zf_retz], 64)]
theorem zT19_15 (h : Nat) : zTab h 19 15 4 (zt19_15 h) := zTab.mk (ret := (some .boolean)) (bl := xk19_15) (by decide +kernel) (by decide +kernel) rfl rfl
def zt19_16 (h : Nat) : ZB := [(0, [zf_ild 0, zf_if .lt 15, zf_ild 0, zf_ic 256, zf_ic2 .ge 15, zf_ic 1, zf_go 16], 15),
  (15, [zf_ic 0], 16),
  (16, [zf_retz], 17)]
theorem zT19_16 (h : Nat) : zTab h 19 16 1 (zt19_16 h) := zTab.mk (ret := (some .boolean)) (bl := xk19_16) (by decide +kernel) (by decide +kernel) rfl rfl
def zt19_17 (h : Nat) : ZB := [(0, [zf_ald 0, zf_ild 1, zf_inv h 19 18 1, zf_if .eq 26, zf_ild 2, zf_if .lt 26, zf_ild 2, zf_ald 0, zf_getR 19 9, zf_ild 1, zf_aldI 100, zf_ic2 .ge 26, zf_ic 1, zf_go 27], 26),
  (26, [zf_ic 0], 27),
  (27, [zf_retz], 28)]
theorem zT19_17 (h : Nat) : zTab h 19 17 3 (zt19_17 h) := zTab.mk (ret := (some .boolean)) (bl := xk19_17) (by decide +kernel) (by decide +kernel) rfl rfl
def zt19_18 (h : Nat) : ZB := [(0, [zf_ild 1, zf_if .lt 16, zf_ild 1, zf_ald 0, zf_getI 19 8, zf_ic2 .ge 16, zf_ic 1, zf_go 17], 16),
  (16, [zf_ic 0], 17),
  (17, [zf_retz], 18)]
theorem zT19_18 (h : Nat) : zTab h 19 18 2 (zt19_18 h) := zTab.mk (ret := (some .boolean)) (bl := xk19_18) (by decide +kernel) (by decide +kernel) rfl rfl
def zt19_19 (h : Nat) : ZB := [(0, [zf_ald 0, zf_ald 0, zf_getR 19 9, zf_ild 1, zf_aldI 100, zf_putI 19 15, zf_ic 0, zf_ist 2], 12),
  (12, [zf_ild 2, zf_ic 32, zf_ald 0, zf_getI 19 15, zf_mul, zf_ic2 .ge 47, zf_ald 0, zf_getR 19 16, zf_ild 2, zf_ald 0, zf_getR 19 13, zf_ic 256, zf_ild 1, zf_mul, zf_ild 2, zf_add, zf_aldI 100, zf_astI, zf_inc 2 1, zf_go 12], 47),
  (47, [zf_ret], 48)]
theorem zT19_19 (h : Nat) : zTab h 19 19 3 (zt19_19 h) := zTab.mk (ret := none) (bl := xk19_19) (by decide +kernel) (by decide +kernel) rfl rfl
def zt19_20 (h : Nat) : ZB := [(0, [zf_ald 0, zf_ic 0, zf_putI 19 0, zf_ald 0, zf_getI 19 8, zf_reti], 10)]
theorem zT19_20 (h : Nat) : zTab h 19 20 1 (zt19_20 h) := zTab.mk (ret := (some .int)) (bl := xk19_20) (by decide +kernel) (by decide +kernel) rfl rfl
def zt19_21 (h : Nat) : ZB := [(0, [zf_ic (-1), zf_ist 2, zf_ic 0, zf_ist 3], 4),
  (4, [zf_ild 3, zf_ald 0, zf_getR 19 9, zf_ic 10, zf_aldI 100, zf_ic2 .ge 59, zf_ald 0, zf_getR 19 10, zf_ic 80, zf_ild 3, zf_add, zf_aldI 100, zf_ist 4, zf_ild 4, zf_ild 1, zf_ic2 .le 53, zf_ild 2, zf_ic (-1), zf_ic2 .eq 51, zf_ild 4, zf_ald 0, zf_getR 19 10, zf_ic 80, zf_ild 2, zf_add, zf_aldI 100, zf_ic2 .ge 53], 51),
  (51, [zf_ild 3, zf_ist 2], 53),
  (53, [zf_inc 3 1, zf_go 4], 59),
  (59, [zf_ild 2, zf_reti], 61)]
theorem zT19_21 (h : Nat) : zTab h 19 21 5 (zt19_21 h) := zTab.mk (ret := (some .int)) (bl := xk19_21) (by decide +kernel) (by decide +kernel) rfl rfl
def zt19_22 (h : Nat) : ZB := [(0, [zf_ald 0, zf_getI 19 24, zf_ic 100, zf_ic2 .ne 10, zf_ret], 10),
  (10, [zf_ald 0, zf_getR 19 25, zf_ald 0, zf_getI 19 24, zf_ild 1, zf_astI, zf_ald 0, zf_getR 19 26, zf_ald 0, zf_getI 19 24, zf_ild 2, zf_astI, zf_ald 0, zf_getR 19 27, zf_ald 0, zf_getI 19 24, zf_ild 3, zf_astI, zf_ald 0, zf_getR 19 28, zf_ald 0, zf_getI 19 24, zf_ild 4, zf_astI, zf_ald 0, zf_dup, zf_getI 19 24, zf_ic 1, zf_add, zf_putI 19 24, zf_ret], 62)]
theorem zT19_22 (h : Nat) : zTab h 19 22 5 (zt19_22 h) := zTab.mk (ret := none) (bl := xk19_22) (by decide +kernel) (by decide +kernel) rfl rfl
def zt19_23 (h : Nat) : ZB := [(0, [zf_ald 0, zf_ild 1, zf_if .lt 17, zf_ild 1, zf_ald 0, zf_getI 19 17, zf_ic2 .ge 17, zf_ic 0, zf_go 18], 17),
  (17, [zf_ic 1], 18),
  (18, [zf_putI 19 0, zf_ald 0, zf_getI 19 0, zf_if .eq 30, zf_ic 0, zf_retz], 30),
  (30, [zf_ald 0, zf_getR 19 18, zf_ild 1, zf_ald 0, zf_getR 19 18, zf_ild 1, zf_aldI 100, zf_ild 2, zf_ic 255, zf_bit zand, zf_bit zxor, zf_astI, zf_ild 2, zf_ic 255, zf_bit zand, zf_if .eq 60, zf_ic 1, zf_go 61], 60),
  (60, [zf_ic 0], 61),
  (61, [zf_retz], 62)]
theorem zT19_23 (h : Nat) : zTab h 19 23 3 (zt19_23 h) := zTab.mk (ret := (some .boolean)) (bl := xk19_23) (by decide +kernel) (by decide +kernel) rfl rfl
def zt19_24 (h : Nat) : ZB := [(0, [zf_ald 0, zf_ald 0, zf_ild 1, zf_ild 2, zf_inv h 19 17 2, zf_if .eq 18, zf_ild 3, zf_if .lt 18, zf_ic 0, zf_go 19], 18),
  (18, [zf_ic 1], 19),
  (19, [zf_putI 19 0, zf_ald 0, zf_getI 19 0, zf_if .eq 31, zf_ic 0, zf_reti], 31),
  (31, [zf_ald 0, zf_ild 3, zf_inv h 19 1 1, zf_ald 0, zf_ild 2, zf_ald 0, zf_getR 19 9, zf_ild 1, zf_aldI 100, zf_inst h 19 30 2, zf_inv h 19 28 1, zf_ald 0, zf_ild 1, zf_inv h 19 19 1, zf_ild 2, zf_ist 4], 58),
  (58, [zf_ald 0, zf_getI 19 15, zf_ic 1, zf_ic2 .le 143, zf_ild 4, zf_ic 1, zf_bit zxor, zf_ist 5, zf_ild 5, zf_ald 0, zf_getI 19 15, zf_ic2 .ge 130, zf_ald 0, zf_ild 5, zf_ild 4, zf_ic2 .ge 93, zf_ic 0, zf_go 94], 93),
  (93, [zf_ic 1], 94),
  (94, [zf_inv h 19 28 1, zf_ic 0, zf_ist 6], 100),
  (100, [zf_ild 6, zf_ic 32, zf_ic2 .ge 130, zf_ald 0, zf_ald 0, zf_getR 19 16, zf_ic 32, zf_ild 5, zf_mul, zf_ild 6, zf_add, zf_aldI 100, zf_inv h 19 28 1, zf_inc 6 1, zf_go 100], 130),
  (130, [zf_ald 0, zf_inv h 19 12 0, zf_ild 4, zf_ic 2, zf_div, zf_ist 4, zf_go 58], 143),
  (143, [zf_ald 0, zf_getI 19 31, zf_reti], 148)]
theorem zT19_24 (h : Nat) : zTab h 19 24 7 (zt19_24 h) := zTab.mk (ret := (some .int)) (bl := xk19_24) (by decide +kernel) (by decide +kernel) rfl rfl
def zt19_25 (h : Nat) : ZB := [(0, [zf_ald 0, zf_getR 19 3, zf_ald 0, zf_getI 19 2, zf_ild 1, zf_astI, zf_ald 0, zf_dup, zf_getI 19 2, zf_ic 1, zf_add, zf_putI 19 2, zf_ret], 21)]
theorem zT19_25 (h : Nat) : zTab h 19 25 2 (zt19_25 h) := zTab.mk (ret := none) (bl := xk19_25) (by decide +kernel) (by decide +kernel) rfl rfl
def zt19_26 (h : Nat) : ZB := [(0, [zf_ic 0, zf_ist 3], 2),
  (2, [zf_ild 3, zf_ic 32, zf_ic2 .ge 23, zf_ald 0, zf_ald 1, zf_ild 2, zf_ild 3, zf_add, zf_aldI 100, zf_inv h 19 25 1, zf_inc 3 1, zf_go 2], 23),
  (23, [zf_ret], 24)]
theorem zT19_26 (h : Nat) : zTab h 19 26 4 (zt19_26 h) := zTab.mk (ret := none) (bl := xk19_26) (by decide +kernel) (by decide +kernel) rfl rfl
def zt19_27 (h : Nat) : ZB := [(0, [zf_ald 0, zf_ald 0, zf_ild 1, zf_inv h 19 18 1, zf_if .eq 23, zf_ild 2, zf_if .lt 23, zf_ild 2, zf_ic 32, zf_ic2 .ge 23, zf_ic 0, zf_go 24], 23),
  (23, [zf_ic 1], 24),
  (24, [zf_putI 19 0, zf_ald 0, zf_getI 19 0, zf_if .ne 48, zf_ald 0, zf_getR 19 14, zf_ic 32, zf_ild 1, zf_mul, zf_ild 2, zf_add, zf_aldI 100, zf_go 49], 48),
  (48, [zf_ic 0], 49),
  (49, [zf_reti], 50)]
theorem zT19_27 (h : Nat) : zTab h 19 27 3 (zt19_27 h) := zTab.mk (ret := (some .int)) (bl := xk19_27) (by decide +kernel) (by decide +kernel) rfl rfl
def zt19_28 (h : Nat) : ZB := [(0, [zf_ald 0, zf_getI 19 30, zf_ald 0, zf_getI 19 29, zf_ic2 .ne 16, zf_ald 0, zf_ild 1, zf_putI 19 31], 16),
  (16, [zf_ald 0, zf_dup, zf_getI 19 30, zf_ic 1, zf_add, zf_putI 19 30, zf_ret], 27)]
theorem zT19_28 (h : Nat) : zTab h 19 28 2 (zt19_28 h) := zTab.mk (ret := none) (bl := xk19_28) (by decide +kernel) (by decide +kernel) rfl rfl
def zt19_29 (h : Nat) : ZB := [(0, [zf_ald 0, zf_ald 0, zf_ild 1, zf_inv h 19 18 1, zf_if .eq 13, zf_ic 0, zf_go 14], 13),
  (13, [zf_ic 1], 14),
  (14, [zf_putI 19 0, zf_ald 0, zf_getI 19 0, zf_if .eq 26, zf_ic 0, zf_reti], 26),
  (26, [zf_ald 0, zf_getR 19 20, zf_ild 1, zf_aldB, zf_if .ne 52, zf_ald 0, zf_ild 1, zf_inv h 19 15 1, zf_if .eq 52, zf_ald 0, zf_getI 19 22, zf_ic 60, zf_ic2 .ne 54], 52),
  (52, [zf_ic (-1), zf_reti], 54),
  (54, [zf_ald 0, zf_getR 19 23, zf_ald 0, zf_getI 19 22, zf_ild 1, zf_astI, zf_ald 0, zf_ild 1, zf_ic 1, zf_ald 0, zf_getI 19 22, zf_ic (-1), zf_inv h 19 22 4, zf_ald 0, zf_dup, zf_getI 19 22, zf_ic 1, zf_add, zf_putI 19 22, zf_ald 0, zf_getI 19 22, zf_ic 1, zf_sub, zf_reti], 92)]
theorem zT19_29 (h : Nat) : zTab h 19 29 2 (zt19_29 h) := zTab.mk (ret := (some .int)) (bl := xk19_29) (by decide +kernel) (by decide +kernel) rfl rfl
def zt19_30 (h : Nat) : ZB := [(0, [zf_ic 0, zf_ist 2, zf_ild 0, zf_ist 3, zf_ild 1, zf_ist 4], 7),
  (7, [zf_ild 4, zf_ic 1, zf_ic2 .le 44, zf_ild 2, zf_ild 3, zf_ic 1, zf_bit zxor, zf_ild 4, zf_ic2 .ge 26, zf_ic 1, zf_go 27], 26),
  (26, [zf_ic 0], 27),
  (27, [zf_add, zf_ist 2, zf_ild 3, zf_ic 2, zf_div, zf_ist 3, zf_ild 4, zf_ic 1, zf_add, zf_ic 2, zf_div, zf_ist 4, zf_go 7], 44),
  (44, [zf_ild 2, zf_reti], 46)]
theorem zT19_30 (h : Nat) : zTab h 19 30 5 (zt19_30 h) := zTab.mk (ret := (some .int)) (bl := xk19_30) (by decide +kernel) (by decide +kernel) rfl rfl
def zt19_31 (h : Nat) : ZB := [(0, [zf_ald 0, zf_ild 1, zf_lld 2, zf_inv h 19 32 2, zf_ald 0, zf_ild 1, zf_ic 2, zf_add, zf_lld 4, zf_inv h 19 32 2, zf_ald 0, zf_ild 1, zf_ic 4, zf_add, zf_lld 6, zf_inv h 19 32 2, zf_ald 0, zf_ild 1, zf_ic 6, zf_add, zf_lld 8, zf_inv h 19 32 2, zf_ret], 35)]
theorem zT19_31 (h : Nat) : zTab h 19 31 10 (zt19_31 h) := zTab.mk (ret := none) (bl := xk19_31) (by decide +kernel) (by decide +kernel) rfl rfl
def zt19_32 (h : Nat) : ZB := [(0, [zf_ald 0, zf_getR 19 1, zf_ild 1, zf_lld 2, zf_ic 32, zf_lsh zlshr, zf_l2i, zf_astI, zf_ald 0, zf_getR 19 1, zf_ild 1, zf_ic 1, zf_add, zf_lld 2, zf_l2i, zf_astI, zf_ret], 22)]
theorem zT19_32 (h : Nat) : zTab h 19 32 4 (zt19_32 h) := zTab.mk (ret := none) (bl := xk19_32) (by decide +kernel) (by decide +kernel) rfl rfl
def zt19_33 (h : Nat) : ZB := [(0, [zf_ald 0, zf_getI 19 0, zf_reti], 5)]
theorem zT19_33 (h : Nat) : zTab h 19 33 1 (zt19_33 h) := zTab.mk (ret := (some .int)) (bl := xk19_33) (by decide +kernel) (by decide +kernel) rfl rfl
def zt19_34 (h : Nat) : ZB := [(0, [zf_ild 0, zf_ild 1, zf_bit zushr, zf_ild 0, zf_ic 32, zf_ild 1, zf_sub, zf_bit zshl, zf_bit zor, zf_reti], 11)]
theorem zT19_34 (h : Nat) : zTab h 19 34 2 (zt19_34 h) := zTab.mk (ret := (some .int)) (bl := xk19_34) (by decide +kernel) (by decide +kernel) rfl rfl
def zt19_35 (h : Nat) : ZB := [(0, [zf_ald 0, zf_ald 0, zf_ild 1, zf_inv h 19 18 1, zf_if .eq 13, zf_ic 0, zf_go 14], 13),
  (13, [zf_ic 1], 14),
  (14, [zf_putI 19 0, zf_ald 0, zf_getI 19 0, zf_if .eq 26, zf_ic 0, zf_reti], 26),
  (26, [zf_ald 0, zf_getR 19 20, zf_ild 1, zf_aldB, zf_if .eq 37, zf_ic (-1), zf_reti], 37),
  (37, [zf_ald 0, zf_getR 19 20, zf_ild 1, zf_ic 1, zf_astB, zf_ald 0, zf_dup, zf_getI 19 21, zf_ic 1, zf_add, zf_putI 19 21, zf_ald 0, zf_ild 1, zf_ic 2, zf_ic (-1), zf_ic (-1), zf_inv h 19 22 4, zf_ald 0, zf_getI 19 21, zf_reti], 67)]
theorem zT19_35 (h : Nat) : zTab h 19 35 2 (zt19_35 h) := zTab.mk (ret := (some .int)) (bl := xk19_35) (by decide +kernel) (by decide +kernel) rfl rfl
def zt20_0 (h : Nat) : ZB := [(0, [zf_ald 0, zf_ild 1, zf_inv h 20 25 1, zf_ist 4, zf_ild 4, zf_ild 1, zf_ic2 .ne 20, zf_ald 0, zf_ild 1, zf_inv h 20 9 1, zf_ic (-1), zf_reti], 20),
  (20, [zf_ald 0, zf_ild 1, zf_ild 4, zf_inv h 20 21 2, zf_ist 5, zf_ild 2, zf_ic (-1), zf_ic2 .ne 47, zf_ild 5, zf_if .ne 43, zf_ic 1, zf_go 53], 43),
  (43, [zf_ic 0, zf_go 53], 47),
  (47, [zf_ild 5, zf_ild 2, zf_inst h 20 4 2], 53),
  (53, [zf_ist 6, zf_ild 6, zf_if .eq 70, zf_ald 0, zf_getI 20 17, zf_ic 200, zf_ic2 .ne 77], 70),
  (70, [zf_ald 0, zf_ild 1, zf_inv h 20 9 1, zf_ic (-1), zf_reti], 77),
  (77, [zf_ald 0, zf_ic 0, zf_putI 20 20, zf_ald 0, zf_ic 0, zf_putI 20 21, zf_ald 0, zf_getI 20 15, zf_if .eq 114, zf_ald 0, zf_ald 0, zf_getI 20 17, zf_ild 5, zf_inv h 20 1 2, zf_ald 0, zf_getR 20 6, zf_ald 0, zf_getI 20 17, zf_ild 3, zf_astI], 114),
  (114, [zf_ild 5, zf_reti], 117)]
theorem zT20_0 (h : Nat) : zTab h 20 0 7 (zt20_0 h) := zTab.mk (ret := (some .int)) (bl := xk20_0) (by decide +kernel) (by decide +kernel) rfl rfl
def zt20_1 (h : Nat) : ZB := [(0, [zf_ic 0, zf_ist 3], 2),
  (2, [zf_ild 3, zf_ic 5, zf_ic2 .ge 24, zf_ald 0, zf_getR 20 7, zf_ic 5, zf_ild 1, zf_mul, zf_ild 3, zf_add, zf_lc 0, zf_astL, zf_inc 3 1, zf_go 2], 24),
  (24, [zf_ild 2, zf_ic 3, zf_ic2 .ne 38, zf_ald 0, zf_getR 20 7, zf_ic 5, zf_ild 1, zf_mul, zf_lc 1, zf_astL], 38),
  (38, [zf_ild 2, zf_ic 6, zf_ic2 .ne 57, zf_ald 0, zf_getR 20 7, zf_ic 5, zf_ild 1, zf_mul, zf_ic 2, zf_add, zf_lc 1270000, zf_astL], 57),
  (57, [zf_ald 0, zf_getR 20 8, zf_ic 2, zf_ild 1, zf_mul, zf_ic 0, zf_astI, zf_ald 0, zf_getR 20 8, zf_ic 2, zf_ild 1, zf_mul, zf_ic 1, zf_add, zf_ic 0, zf_astI, zf_ald 0, zf_getR 20 5, zf_ild 1, zf_ild 2, zf_astI, zf_ald 0, zf_getR 20 11, zf_ild 1, zf_ic 0, zf_astI, zf_ret], 92)]
theorem zT20_1 (h : Nat) : zTab h 20 1 4 (zt20_1 h) := zTab.mk (ret := none) (bl := xk20_1) (by decide +kernel) (by decide +kernel) rfl rfl
def zt20_2 (h : Nat) : ZB := [(0, [zf_ild 1, zf_ist 2], 2),
  (2, [zf_ald 0, zf_ild 2, zf_inv h 20 3 1, zf_inst h 20 15 1, zf_if .eq 19, zf_inc 2 1, zf_go 2], 19),
  (19, [zf_ild 2, zf_reti], 21)]
theorem zT20_2 (h : Nat) : zTab h 20 2 3 (zt20_2 h) := zTab.mk (ret := (some .int)) (bl := xk20_2) (by decide +kernel) (by decide +kernel) rfl rfl
def zt20_3 (h : Nat) : ZB := [(0, [zf_ild 1, zf_ald 0, zf_getI 20 3, zf_ic2 .ge 17, zf_ald 0, zf_getR 20 2, zf_ild 1, zf_aldI 100, zf_go 18], 17),
  (17, [zf_ic (-1)], 18),
  (18, [zf_reti], 19)]
theorem zT20_3 (h : Nat) : zTab h 20 3 2 (zt20_3 h) := zTab.mk (ret := (some .int)) (bl := xk20_3) (by decide +kernel) (by decide +kernel) rfl rfl
def zt20_4 (h : Nat) : ZB := [(0, [zf_ild 0, zf_sw 143 1 9 [52, 67, 78, 89, 89, 100, 67, 116, 132]], 52),
  (52, [zf_ild 1, zf_if .eq 61, zf_ild 1, zf_ic 1, zf_ic2 .ne 65], 61),
  (61, [zf_ic 1, zf_go 66], 65),
  (65, [zf_ic 0], 66),
  (66, [zf_retz], 67),
  (67, [zf_ild 1, zf_ic 1, zf_ic2 .ne 76, zf_ic 1, zf_go 77], 76),
  (76, [zf_ic 0], 77),
  (77, [zf_retz], 78),
  (78, [zf_ild 1, zf_ic 2, zf_ic2 .ne 87, zf_ic 1, zf_go 88], 87),
  (87, [zf_ic 0], 88),
  (88, [zf_retz], 89),
  (89, [zf_ild 1, zf_ic 3, zf_ic2 .ne 98, zf_ic 1, zf_go 99], 98),
  (98, [zf_ic 0], 99),
  (99, [zf_retz], 100),
  (100, [zf_ild 1, zf_ic 3, zf_ic2 .eq 110, zf_ild 1, zf_ic 1, zf_ic2 .ne 114], 110),
  (110, [zf_ic 1, zf_go 115], 114),
  (114, [zf_ic 0], 115),
  (115, [zf_retz], 116),
  (116, [zf_ild 1, zf_ic 1, zf_ic2 .eq 126, zf_ild 1, zf_ic 2, zf_ic2 .ne 130], 126),
  (126, [zf_ic 1, zf_go 131], 130),
  (130, [zf_ic 0], 131),
  (131, [zf_retz], 132),
  (132, [zf_ild 1, zf_ic 4, zf_ic2 .ge 141, zf_ic 1, zf_go 142], 141),
  (141, [zf_ic 0], 142),
  (142, [zf_retz], 143),
  (143, [zf_ic 0, zf_retz], 145)]
theorem zT20_4 (h : Nat) : zTab h 20 4 2 (zt20_4 h) := zTab.mk (ret := (some .boolean)) (bl := xk20_4) (by decide +kernel) (by decide +kernel) rfl rfl
def zt20_5 (h : Nat) : ZB := [(0, [zf_ild 2, zf_ist 3], 2),
  (2, [zf_ild 3, zf_ald 0, zf_getI 20 4, zf_ic2 .ge 28, zf_ald 0, zf_getR 20 6, zf_ild 3, zf_aldI 100, zf_ild 1, zf_ic2 .ne 22, zf_ild 3, zf_reti], 22),
  (22, [zf_inc 3 1, zf_go 2], 28),
  (28, [zf_ic (-1), zf_reti], 30)]
theorem zT20_5 (h : Nat) : zTab h 20 5 4 (zt20_5 h) := zTab.mk (ret := (some .int)) (bl := xk20_5) (by decide +kernel) (by decide +kernel) rfl rfl
def zt20_6 (h : Nat) : ZB := [(0, [zf_ald 0, zf_ic 0, zf_putI 20 0, zf_ald 0, zf_ic 0, zf_putI 20 3, zf_ret], 11)]
theorem zT20_6 (h : Nat) : zTab h 20 6 1 (zt20_6 h) := zTab.mk (ret := none) (bl := xk20_6) (by decide +kernel) (by decide +kernel) rfl rfl
def zt20_7 (h : Nat) : ZB := [(0, [zf_ild 1, zf_ist 3], 2),
  (2, [zf_ald 0, zf_ild 3, zf_inv h 20 3 1, zf_inst h 20 16 1, zf_if .eq 26, zf_ild 3, zf_ild 1, zf_sub, zf_ild 2, zf_ic2 .ge 26, zf_inc 3 1, zf_go 2], 26),
  (26, [zf_ild 3, zf_ild 1, zf_ic2 .eq 42, zf_ald 0, zf_ild 3, zf_inv h 20 3 1, zf_inst h 20 16 1, zf_if .eq 47], 42),
  (42, [zf_ald 0, zf_ild 3, zf_inv h 20 9 1], 47),
  (47, [zf_ild 3, zf_reti], 49)]
theorem zT20_7 (h : Nat) : zTab h 20 7 4 (zt20_7 h) := zTab.mk (ret := (some .int)) (bl := xk20_7) (by decide +kernel) (by decide +kernel) rfl rfl
def zt20_8 (h : Nat) : ZB := [(0, [zf_ild 1, zf_ist 2], 2),
  (2, [zf_ald 0, zf_ild 2, zf_inv h 20 3 1, zf_ic 46, zf_ic2 .ne 18, zf_inc 2 1, zf_go 2], 18),
  (18, [zf_ild 2, zf_ild 1, zf_sub, zf_reti], 22)]
theorem zT20_8 (h : Nat) : zTab h 20 8 3 (zt20_8 h) := zTab.mk (ret := (some .int)) (bl := xk20_8) (by decide +kernel) (by decide +kernel) rfl rfl
def zt20_9 (h : Nat) : ZB := [(0, [zf_ald 0, zf_getI 20 18, zf_ic (-1), zf_ic2 .ne 13, zf_ald 0, zf_ild 1, zf_putI 20 18], 13),
  (13, [zf_ret], 14)]
theorem zT20_9 (h : Nat) : zTab h 20 9 2 (zt20_9 h) := zTab.mk (ret := none) (bl := xk20_9) (by decide +kernel) (by decide +kernel) rfl rfl
def zt20_10 (h : Nat) : ZB := [(0, [zf_ild 0, zf_sw 193 1 8 [48, 67, 87, 97, 126, 146, 171, 182]], 48),
  (48, [zf_ild 1, zf_if .ne 56, zf_ic 2, zf_go 66], 56),
  (56, [zf_ild 1, zf_ic 1, zf_ic2 .ne 65, zf_ic 3, zf_go 66], 65),
  (65, [zf_ic 0], 66),
  (66, [zf_reti], 67),
  (67, [zf_ild 1, zf_ic 2, zf_ic2 .ge 76, zf_ic 1, zf_go 86], 76),
  (76, [zf_ild 1, zf_ic 2, zf_ic2 .ne 85, zf_ic 3, zf_go 86], 85),
  (85, [zf_ic 0], 86),
  (86, [zf_reti], 87),
  (87, [zf_ild 1, zf_if .ne 95, zf_ic 2, zf_go 96], 95),
  (95, [zf_ic 0], 96),
  (96, [zf_reti], 97),
  (97, [zf_ild 1, zf_ic 2, zf_ic2 .ge 106, zf_ic 1, zf_go 125], 106),
  (106, [zf_ild 1, zf_ic 2, zf_ic2 .ne 115, zf_ic 3, zf_go 125], 115),
  (115, [zf_ild 1, zf_ic 3, zf_ic2 .ne 124, zf_ic 2, zf_go 125], 124),
  (124, [zf_ic 0], 125),
  (125, [zf_reti], 126),
  (126, [zf_ild 1, zf_ic 3, zf_ic2 .ge 135, zf_ic 1, zf_go 145], 135),
  (135, [zf_ild 1, zf_ic 5, zf_ic2 .ge 144, zf_ic 2, zf_go 145], 144),
  (144, [zf_ic 0], 145),
  (145, [zf_reti], 146),
  (146, [zf_ild 1, zf_ic 2, zf_ic2 .lt 156, zf_ild 1, zf_ic 3, zf_ic2 .ne 160], 156),
  (156, [zf_ic 1, zf_go 170], 160),
  (160, [zf_ild 1, zf_ic 2, zf_ic2 .ne 169, zf_ic 3, zf_go 170], 169),
  (169, [zf_ic 0], 170),
  (170, [zf_reti], 171),
  (171, [zf_ild 1, zf_ic 4, zf_ic2 .ge 180, zf_ic 1, zf_go 181], 180),
  (180, [zf_ic 0], 181),
  (181, [zf_reti], 182),
  (182, [zf_ild 1, zf_ic 2, zf_ic2 .ge 191, zf_ic 3, zf_go 192], 191),
  (191, [zf_ic 0], 192),
  (192, [zf_reti], 193),
  (193, [zf_ic 0, zf_reti], 195)]
theorem zT20_10 (h : Nat) : zTab h 20 10 2 (zt20_10 h) := zTab.mk (ret := (some .int)) (bl := xk20_10) (by decide +kernel) (by decide +kernel) rfl rfl
def zt20_11 (h : Nat) : ZB := [(0, [zf_ild 1, zf_ist 3, zf_ic 0, zf_ist 4], 5),
  (5, [zf_ild 0, zf_ild 4, zf_inst h 20 10 2, zf_if .eq 56, zf_ild 1, zf_if .lt 56, zf_ild 0, zf_ild 4, zf_inst h 20 10 2, zf_ic 3, zf_ic2 .ne 32, zf_ic 1, zf_go 33], 32),
  (32, [zf_ic 0], 33),
  (33, [zf_ild 2, zf_ic2 .eq 40, zf_go 50], 40),
  (40, [zf_ild 3, zf_if .ne 47, zf_ild 4, zf_reti], 47),
  (47, [zf_inc 3 (-1)], 50),
  (50, [zf_inc 4 1, zf_go 5], 56),
  (56, [zf_ic (-1), zf_reti], 58)]
theorem zT20_11 (h : Nat) : zTab h 20 11 5 (zt20_11 h) := zTab.mk (ret := (some .int)) (bl := xk20_11) (by decide +kernel) (by decide +kernel) rfl rfl
def zt20_12 (h : Nat) : ZB := [(0, [zf_ic 0, zf_ist 2], 2),
  (2, [zf_ild 0, zf_ild 2, zf_inst h 20 10 2, zf_if .eq 16, zf_inc 2 1, zf_go 2], 16),
  (16, [zf_ild 0, zf_ic 4, zf_ic2 .ne 26, zf_ild 1, zf_ic 2, zf_ic2 .lt 37], 26),
  (26, [zf_ild 0, zf_ic 6, zf_ic2 .ne 43, zf_ild 1, zf_ic 3, zf_ic2 .ge 43], 37),
  (37, [zf_ild 2, zf_ic 1, zf_sub, zf_go 44], 43),
  (43, [zf_ild 2], 44),
  (44, [zf_reti], 45)]
theorem zT20_12 (h : Nat) : zTab h 20 12 3 (zt20_12 h) := zTab.mk (ret := (some .int)) (bl := xk20_12) (by decide +kernel) (by decide +kernel) rfl rfl
def zt20_13 (h : Nat) : ZB := [(0, [zf_ald 0, zf_ild 1, zf_putZ 20 15, zf_ald 0, zf_ic (-1), zf_putI 20 18, zf_ald 0, zf_ic 0, zf_putI 20 17, zf_ald 0, zf_ic 0, zf_putI 20 22, zf_ald 0, zf_getI 20 1, zf_if .ne 34, zf_ald 0, zf_inv h 20 35 0, zf_go 38], 34),
  (34, [zf_ald 0, zf_inv h 20 34 0], 38),
  (38, [zf_ret], 39)]
theorem zT20_13 (h : Nat) : zTab h 20 13 2 (zt20_13 h) := zTab.mk (ret := none) (bl := xk20_13) (by decide +kernel) (by decide +kernel) rfl rfl
def zt20_14 (h : Nat) : ZB := [(0, [zf_ald 0, zf_ini, zf_ald 0, zf_ic 4000, zf_newA 100, zf_putR 20 2, zf_ald 0, zf_ic 200, zf_newA 100, zf_putR 20 5, zf_ald 0, zf_ic 200, zf_newA 100, zf_putR 20 6, zf_ald 0, zf_ic 1000, zf_newA 101, zf_putR 20 7, zf_ald 0, zf_ic 400, zf_newA 100, zf_putR 20 8, zf_ald 0, zf_ic 16000, zf_newA 100, zf_putR 20 9, zf_ald 0, zf_ic 200, zf_newA 100, zf_putR 20 10, zf_ald 0, zf_ic 200, zf_newA 100, zf_putR 20 11, zf_ald 0, zf_ic 2000, zf_newA 100, zf_putR 20 12, zf_ald 0, zf_ic 201, zf_newA 100, zf_putR 20 23, zf_ald 0, zf_ic 201, zf_newA 100, zf_putR 20 24, zf_ald 0, zf_ic 110000, zf_newA 100, zf_putR 20 25, zf_ald 0, zf_ic 1, zf_putZ 20 27, zf_ald 0, zf_ic 0, zf_putI 20 0, zf_ald 0, zf_ild 1, zf_ic 1, zf_ic2 .ge 131, zf_ic 0, zf_go 132], 131),
  (131, [zf_ic 1], 132),
  (132, [zf_putI 20 1, zf_ret], 136)]
theorem zT20_14 (h : Nat) : zTab h 20 14 2 (zt20_14 h) := zTab.mk (ret := none) (bl := xk20_14) (by decide +kernel) (by decide +kernel) rfl rfl
def zt20_15 (h : Nat) : ZB := [(0, [zf_ild 0, zf_ic 32, zf_ic2 .eq 12, zf_ild 0, zf_ic 10, zf_ic2 .ne 16], 12),
  (12, [zf_ic 1, zf_go 17], 16),
  (16, [zf_ic 0], 17),
  (17, [zf_retz], 18)]
theorem zT20_15 (h : Nat) : zTab h 20 15 1 (zt20_15 h) := zTab.mk (ret := (some .boolean)) (bl := xk20_15) (by decide +kernel) (by decide +kernel) rfl rfl
def zt20_16 (h : Nat) : ZB := [(0, [zf_ild 0, zf_ic 48, zf_ic2 .lt 16, zf_ild 0, zf_ic 57, zf_ic2 .gt 16, zf_ic 1, zf_go 17], 16),
  (16, [zf_ic 0], 17),
  (17, [zf_retz], 18)]
theorem zT20_16 (h : Nat) : zTab h 20 16 1 (zt20_16 h) := zTab.mk (ret := (some .boolean)) (bl := xk20_16) (by decide +kernel) (by decide +kernel) rfl rfl
def zt20_17 (h : Nat) : ZB := [(0, [zf_ild 1, zf_if .lt 16, zf_ild 1, zf_ald 0, zf_getI 20 4, zf_ic2 .ge 16, zf_ic 1, zf_go 17], 16),
  (16, [zf_ic 0], 17),
  (17, [zf_retz], 18)]
theorem zT20_17 (h : Nat) : zTab h 20 17 2 (zt20_17 h) := zTab.mk (ret := (some .boolean)) (bl := xk20_17) (by decide +kernel) (by decide +kernel) rfl rfl
def zt20_18 (h : Nat) : ZB := [(0, [zf_ild 0, zf_ic 97, zf_ic2 .lt 16, zf_ild 0, zf_ic 122, zf_ic2 .gt 16, zf_ic 1, zf_go 17], 16),
  (16, [zf_ic 0], 17),
  (17, [zf_retz], 18)]
theorem zT20_18 (h : Nat) : zTab h 20 18 1 (zt20_18 h) := zTab.mk (ret := (some .boolean)) (bl := xk20_18) (by decide +kernel) (by decide +kernel) rfl rfl
def zt20_19 (h : Nat) : ZB := [(0, [zf_ild 1, zf_ist 3], 2),
  (2, [zf_ild 3, zf_ild 2, zf_ic2 .ge 84, zf_ald 0, zf_getI 20 18, zf_ic (-1), zf_ic2 .ne 84, zf_ald 0, zf_getI 20 22, zf_ic 2000, zf_ic2 .ne 33, zf_ald 0, zf_ild 3, zf_inv h 20 9 1, zf_go 78], 33),
  (33, [zf_ald 0, zf_getI 20 15, zf_if .eq 68, zf_ald 0, zf_getR 20 12, zf_ald 0, zf_getI 20 22, zf_ald 0, zf_getR 20 2, zf_ild 3, zf_aldI 100, zf_astI, zf_ald 0, zf_getR 20 11, zf_ald 0, zf_getI 20 17, zf_dup2, zf_aldI 100, zf_ic 1, zf_add, zf_astI], 68),
  (68, [zf_ald 0, zf_dup, zf_getI 20 22, zf_ic 1, zf_add, zf_putI 20 22], 78),
  (78, [zf_inc 3 1, zf_go 2], 84),
  (84, [zf_ret], 85)]
theorem zT20_19 (h : Nat) : zTab h 20 19 4 (zt20_19 h) := zTab.mk (ret := none) (bl := xk20_19) (by decide +kernel) (by decide +kernel) rfl rfl
def zt20_20 (h : Nat) : ZB := [(0, [zf_ald 0, zf_ald 0, zf_ild 1, zf_inv h 20 17 1, zf_if .eq 13, zf_ic 0, zf_go 14], 13),
  (13, [zf_ic 1], 14),
  (14, [zf_putI 20 0, zf_ald 0, zf_getI 20 0, zf_if .ne 33, zf_ald 0, zf_getR 20 5, zf_ild 1, zf_aldI 100, zf_go 34], 33),
  (33, [zf_ic 0], 34),
  (34, [zf_reti], 35)]
theorem zT20_20 (h : Nat) : zTab h 20 20 2 (zt20_20 h) := zTab.mk (ret := (some .int)) (bl := xk20_20) (by decide +kernel) (by decide +kernel) rfl rfl
def zt20_21 (h : Nat) : ZB := [(0, [zf_lc 0, zf_lst 3, zf_ild 1, zf_ist 5], 5),
  (5, [zf_ild 5, zf_ild 2, zf_ic2 .ge 44, zf_ild 2, zf_ild 1, zf_sub, zf_ic 7, zf_ic2 .ge 44, zf_lc 27, zf_lld 3, zf_lmul, zf_ald 0, zf_getR 20 2, zf_ild 5, zf_aldI 100, zf_i2l, zf_ladd, zf_lc 96, zf_lsub, zf_lst 3, zf_inc 5 1, zf_go 5], 44),
  (44, [zf_ic 0, zf_ist 5], 47),
  (47, [zf_ild 5, zf_ic 9, zf_ic2 .ge 73, zf_ild 5, zf_inst h 20 26 1, zf_lld 3, zf_lcmp, zf_if .ne 67, zf_ild 5, zf_reti], 67),
  (67, [zf_inc 5 1, zf_go 47], 73),
  (73, [zf_ic 9, zf_reti], 76)]
theorem zT20_21 (h : Nat) : zTab h 20 21 6 (zt20_21 h) := zTab.mk (ret := (some .int)) (bl := xk20_21) (by decide +kernel) (by decide +kernel) rfl rfl
def zt20_22 (h : Nat) : ZB := [(0, [zf_ild 0, zf_ild 1, zf_inst h 20 10 2, zf_ic 1, zf_ic2 .ne 13, zf_lc (-1000000000), zf_retl], 13),
  (13, [zf_ild 0, zf_ic 3, zf_ic2 .ne 22, zf_lc 1, zf_go 34], 22),
  (22, [zf_ild 0, zf_ic 5, zf_ic2 .ne 33, zf_lc (-360), zf_go 34], 33),
  (33, [zf_lc 0], 34),
  (34, [zf_retl], 35)]
theorem zT20_22 (h : Nat) : zTab h 20 22 2 (zt20_22 h) := zTab.mk (ret := (some .long)) (bl := xk20_22) (by decide +kernel) (by decide +kernel) rfl rfl
def zt20_23 (h : Nat) : ZB := [(0, [zf_ild 1, zf_ist 2], 2),
  (2, [zf_ild 2, zf_ald 0, zf_getI 20 3, zf_ic2 .ge 27, zf_ald 0, zf_getR 20 2, zf_ild 2, zf_aldI 100, zf_ic 10, zf_ic2 .eq 27, zf_inc 2 1, zf_go 2], 27),
  (27, [zf_ild 2, zf_reti], 29)]
theorem zT20_23 (h : Nat) : zTab h 20 23 3 (zt20_23 h) := zTab.mk (ret := (some .int)) (bl := xk20_23) (by decide +kernel) (by decide +kernel) rfl rfl
def zt20_24 (h : Nat) : ZB := [(0, [zf_ild 0, zf_ild 1, zf_inst h 20 10 2, zf_ic 1, zf_ic2 .ne 13, zf_lc 1000000000, zf_retl], 13),
  (13, [zf_ild 0, zf_ic 4, zf_ic2 .ne 24, zf_lc 9, zf_go 38], 24),
  (24, [zf_ild 0, zf_ic 5, zf_ic2 .ne 35, zf_lc 360, zf_go 38], 35),
  (35, [zf_lc 9999], 38),
  (38, [zf_retl], 39)]
theorem zT20_24 (h : Nat) : zTab h 20 24 2 (zt20_24 h) := zTab.mk (ret := (some .long)) (bl := xk20_24) (by decide +kernel) (by decide +kernel) rfl rfl
def zt20_25 (h : Nat) : ZB := [(0, [zf_ild 1, zf_ist 2], 2),
  (2, [zf_ald 0, zf_ild 2, zf_inv h 20 3 1, zf_inst h 20 18 1, zf_if .eq 19, zf_inc 2 1, zf_go 2], 19),
  (19, [zf_ild 2, zf_reti], 21)]
theorem zT20_25 (h : Nat) : zTab h 20 25 3 (zt20_25 h) := zTab.mk (ret := (some .int)) (bl := xk20_25) (by decide +kernel) (by decide +kernel) rfl rfl
def zt20_26 (h : Nat) : ZB := [(0, [zf_ild 0, zf_sw 154 0 7 [48, 62, 75, 90, 104, 117, 128, 141]], 48),
  (48, [zf_ic 4, zf_ic 5, zf_ic 19, zf_ic 9, zf_ic 7, zf_ic 14, zf_inst h 20 49 6, zf_retl], 62),
  (62, [zf_ic 19, zf_ic 8, zf_ic 5, zf_ic 5, zf_ic 20, zf_ic 0, zf_inst h 20 49 6, zf_retl], 75),
  (75, [zf_ic 19, zf_ic 25, zf_ic 13, zf_ic 2, zf_ic 15, zf_ic 12, zf_inst h 20 49 6, zf_retl], 90),
  (90, [zf_ic 21, zf_ic 14, zf_ic 9, zf_ic 20, zf_ic 0, zf_ic 0, zf_inst h 20 49 6, zf_retl], 104),
  (104, [zf_ic 16, zf_ic 9, zf_ic 14, zf_ic 0, zf_ic 0, zf_ic 0, zf_inst h 20 49 6, zf_retl], 117),
  (117, [zf_ic 1, zf_ic 18, zf_ic 3, zf_ic 0, zf_ic 0, zf_ic 0, zf_inst h 20 49 6, zf_retl], 128),
  (128, [zf_ic 14, zf_ic 15, zf_ic 20, zf_ic 5, zf_ic 0, zf_ic 0, zf_inst h 20 49 6, zf_retl], 141),
  (141, [zf_ic 23, zf_ic 9, zf_ic 18, zf_ic 5, zf_ic 0, zf_ic 0, zf_inst h 20 49 6, zf_retl], 154),
  (154, [zf_ic 6, zf_ic 9, zf_ic 5, zf_ic 12, zf_ic 4, zf_ic 0, zf_inst h 20 49 6, zf_retl], 167)]
theorem zT20_26 (h : Nat) : zTab h 20 26 1 (zt20_26 h) := zTab.mk (ret := (some .long)) (bl := xk20_26) (by decide +kernel) (by decide +kernel) rfl rfl
def zt20_27 (h : Nat) : ZB := [(0, [zf_ald 0, zf_ald 0, zf_ild 1, zf_inv h 20 17 1, zf_if .eq 28, zf_ald 0, zf_getR 20 5, zf_ild 1, zf_aldI 100, zf_ild 2, zf_ic 0, zf_inst h 20 11 3, zf_ic (-1), zf_ic2 .eq 28, zf_ic 0, zf_go 29], 28),
  (28, [zf_ic 1], 29),
  (29, [zf_putI 20 0, zf_ald 0, zf_getI 20 0, zf_if .ne 52, zf_ald 0, zf_getR 20 7, zf_ic 5, zf_ild 1, zf_mul, zf_ild 2, zf_add, zf_aldL, zf_go 53], 52),
  (52, [zf_lc 0], 53),
  (53, [zf_retl], 54)]
theorem zT20_27 (h : Nat) : zTab h 20 27 3 (zt20_27 h) := zTab.mk (ret := (some .long)) (bl := xk20_27) (by decide +kernel) (by decide +kernel) rfl rfl
def zt20_28 (h : Nat) : ZB := [(0, [zf_ild 2, zf_ic 100, zf_ic2 .ne 11, zf_ald 0, zf_ild 1, zf_inv h 20 9 1], 11),
  (11, [zf_ald 0, zf_ild 1, zf_ic 1, zf_add, zf_inv h 20 2 1, zf_ist 3, zf_ald 0, zf_getI 20 18, zf_ic (-1), zf_ic2 .eq 31, zf_ic (-1), zf_go 68], 31),
  (31, [zf_ald 0, zf_ild 3, zf_ild 2, zf_if .ne 41, zf_ic (-1), zf_go 49], 41),
  (41, [zf_ald 0, zf_getR 20 24, zf_ild 2, zf_ic 1, zf_sub, zf_aldI 100], 49),
  (49, [zf_ild 2, zf_if .ne 57, zf_ic (-1), zf_go 65], 57),
  (57, [zf_ald 0, zf_getR 20 23, zf_ild 2, zf_ic 1, zf_sub, zf_aldI 100], 65),
  (65, [zf_inv h 20 0 3], 68),
  (68, [zf_ist 4, zf_ild 4, zf_ic (-1), zf_ic2 .ne 78, zf_ild 1, zf_reti], 78),
  (78, [zf_ald 0, zf_ild 3, zf_inv h 20 25 1, zf_ist 5, zf_ild 4, zf_ic 9, zf_ic2 .ne 141, zf_ald 0, zf_getI 20 15, zf_if .eq 112, zf_ald 0, zf_getR 20 10, zf_ald 0, zf_getI 20 17, zf_ald 0, zf_getI 20 22, zf_astI], 112),
  (112, [zf_ald 0, zf_ild 1, zf_ild 5, zf_inv h 20 19 2, zf_ald 0, zf_ild 5, zf_ild 2, zf_inv h 20 30 2, zf_ist 5, zf_ald 0, zf_dup, zf_getI 20 17, zf_ic 1, zf_add, zf_putI 20 17, zf_ild 5, zf_reti], 141),
  (141, [zf_ild 4, zf_if .ne 156, zf_ald 0, zf_ild 5, zf_ic 1, zf_inv h 20 40 2, zf_go 165], 156),
  (156, [zf_ald 0, zf_ild 4, zf_ild 5, zf_ic 1, zf_inv h 20 54 3], 165),
  (165, [zf_ist 5, zf_ald 0, zf_getR 20 23, zf_ild 2, zf_ald 0, zf_getI 20 17, zf_astI, zf_ald 0, zf_getR 20 24, zf_ild 2, zf_ild 4, zf_astI, zf_ald 0, zf_dup, zf_getI 20 17, zf_ic 1, zf_add, zf_putI 20 17, zf_ald 0, zf_ild 2, zf_ic 1, zf_add, zf_putI 20 29, zf_ild 5, zf_reti], 205)]
theorem zT20_28 (h : Nat) : zTab h 20 28 6 (zt20_28 h) := zTab.mk (ret := (some .int)) (bl := xk20_28) (by decide +kernel) (by decide +kernel) rfl rfl
def zt20_29 (h : Nat) : ZB := [(0, [zf_ald 0, zf_ald 0, zf_ild 1, zf_inv h 20 17 1, zf_if .eq 13, zf_ic 0, zf_go 14], 13),
  (13, [zf_ic 1], 14),
  (14, [zf_putI 20 0, zf_ald 0, zf_getI 20 0, zf_if .ne 33, zf_ald 0, zf_getR 20 6, zf_ild 1, zf_aldI 100, zf_go 34], 33),
  (33, [zf_ic 0], 34),
  (34, [zf_reti], 35)]
theorem zT20_29 (h : Nat) : zTab h 20 29 2 (zt20_29 h) := zTab.mk (ret := (some .int)) (bl := xk20_29) (by decide +kernel) (by decide +kernel) rfl rfl
def zt20_30 (h : Nat) : ZB := [(0, [zf_ic 1, zf_ist 3, zf_ild 1, zf_ist 4], 5),
  (5, [zf_ald 0, zf_getI 20 18, zf_ic (-1), zf_ic2 .ne 124, zf_ild 3, zf_if .le 124, zf_ald 0, zf_ild 4, zf_inv h 20 3 1, zf_ist 5, zf_ild 5, zf_ic (-1), zf_ic2 .eq 46, zf_ild 5, zf_ic 40, zf_ic2 .ne 55, zf_ild 2, zf_ild 3, zf_add, zf_ic 100, zf_ic2 .ne 55], 46),
  (46, [zf_ald 0, zf_ild 4, zf_inv h 20 9 1, zf_ild 4, zf_reti], 55),
  (55, [zf_ild 3, zf_ild 5, zf_ic 40, zf_ic2 .ne 67, zf_ic 1, zf_go 79], 67),
  (67, [zf_ild 5, zf_ic 41, zf_ic2 .ne 78, zf_ic (-1), zf_go 79], 78),
  (78, [zf_ic 0], 79),
  (79, [zf_add, zf_ist 3, zf_ald 0, zf_ild 4, zf_ild 4, zf_ic 1, zf_add, zf_inv h 20 19 2, zf_ild 5, zf_ic 34, zf_ic2 .ne 115, zf_ald 0, zf_getI 20 18, zf_ic (-1), zf_ic2 .ne 115, zf_ald 0, zf_ild 4, zf_inv h 20 31 1, zf_go 119], 115),
  (115, [zf_ild 4, zf_ic 1, zf_add], 119),
  (119, [zf_ist 4, zf_go 5], 124),
  (124, [zf_ild 4, zf_reti], 127)]
theorem zT20_30 (h : Nat) : zTab h 20 30 6 (zt20_30 h) := zTab.mk (ret := (some .int)) (bl := xk20_30) (by decide +kernel) (by decide +kernel) rfl rfl
def zt20_31 (h : Nat) : ZB := [(0, [zf_ild 1, zf_ic 1, zf_add, zf_ist 2], 4),
  (4, [zf_ald 0, zf_getI 20 18, zf_ic (-1), zf_ic2 .ne 135, zf_ald 0, zf_ild 2, zf_inv h 20 3 1, zf_ic 34, zf_ic2 .eq 135, zf_ald 0, zf_ild 2, zf_inv h 20 3 1, zf_ic 92, zf_ic2 .ne 36, zf_ic 1, zf_go 37], 36),
  (36, [zf_ic 0], 37),
  (37, [zf_ist 3, zf_ald 0, zf_ild 2, zf_inv h 20 3 1, zf_ic (-1), zf_ic2 .ne 55, zf_ald 0, zf_ild 2, zf_inv h 20 9 1, zf_go 63], 55),
  (55, [zf_ald 0, zf_ild 2, zf_ild 2, zf_ic 1, zf_add, zf_inv h 20 19 2], 63),
  (63, [zf_ild 3, zf_if .eq 98, zf_ald 0, zf_ild 2, zf_ic 1, zf_add, zf_inv h 20 3 1, zf_ic 34, zf_ic2 .eq 98, zf_ald 0, zf_ild 2, zf_ic 1, zf_add, zf_inv h 20 3 1, zf_ic 92, zf_ic2 .eq 98, zf_ald 0, zf_ild 2, zf_ic 1, zf_add, zf_inv h 20 9 1], 98),
  (98, [zf_ild 3, zf_if .eq 120, zf_ald 0, zf_getI 20 18, zf_ic (-1), zf_ic2 .ne 120, zf_ald 0, zf_ild 2, zf_ic 1, zf_add, zf_ild 2, zf_ic 2, zf_add, zf_inv h 20 19 2], 120),
  (120, [zf_ild 2, zf_ild 3, zf_if .eq 129, zf_ic 2, zf_go 130], 129),
  (129, [zf_ic 1], 130),
  (130, [zf_add, zf_ist 2, zf_go 4], 135),
  (135, [zf_ald 0, zf_getI 20 18, zf_ic (-1), zf_ic2 .ne 151, zf_ald 0, zf_ild 2, zf_ild 2, zf_ic 1, zf_add, zf_inv h 20 19 2], 151),
  (151, [zf_ild 2, zf_ic 1, zf_add, zf_reti], 155)]
theorem zT20_31 (h : Nat) : zTab h 20 31 4 (zt20_31 h) := zTab.mk (ret := (some .int)) (bl := xk20_31) (by decide +kernel) (by decide +kernel) rfl rfl
def zt20_32 (h : Nat) : ZB := [(0, [zf_ald 0, zf_ic 0, zf_putI 20 0, zf_ald 0, zf_ic 0, zf_inv h 20 13 1, zf_ald 0, zf_getI 20 18, zf_ic (-1), zf_ic2 .eq 25, zf_ic (-1), zf_ald 0, zf_getI 20 18, zf_sub, zf_reti], 25),
  (25, [zf_ald 0, zf_ic 1, zf_inv h 20 13 1, zf_ald 0, zf_ald 0, zf_getI 20 17, zf_putI 20 4, zf_ald 0, zf_ald 0, zf_getI 20 22, zf_putI 20 13, zf_ald 0, zf_ald 0, zf_getI 20 16, zf_putI 20 14, zf_ald 0, zf_ic 1, zf_putZ 20 27, zf_ald 0, zf_getI 20 4, zf_reti], 64)]
theorem zT20_32 (h : Nat) : zTab h 20 32 1 (zt20_32 h) := zTab.mk (ret := (some .int)) (bl := xk20_32) (by decide +kernel) (by decide +kernel) rfl rfl
def zt20_33 (h : Nat) : ZB := [(0, [zf_ild 1, zf_ild 2, zf_add, zf_ist 3, zf_ald 0, zf_ild 3, zf_ild 2, zf_if .ne 14, zf_ic (-1), zf_go 22], 14),
  (14, [zf_ald 0, zf_getR 20 24, zf_ild 2, zf_ic 1, zf_sub, zf_aldI 100], 22),
  (22, [zf_ild 2, zf_if .ne 30, zf_ic (-1), zf_go 38], 30),
  (30, [zf_ald 0, zf_getR 20 23, zf_ild 2, zf_ic 1, zf_sub, zf_aldI 100], 38),
  (38, [zf_inv h 20 0 3, zf_ist 4, zf_ild 4, zf_ic (-1), zf_ic2 .ne 51, zf_ild 1, zf_reti], 51),
  (51, [zf_ald 0, zf_ild 3, zf_inv h 20 25 1, zf_ist 5, zf_ild 4, zf_ic 9, zf_ic2 .ne 72, zf_ald 0, zf_ild 3, zf_ild 2, zf_inv h 20 38 2, zf_reti], 72),
  (72, [zf_ild 4, zf_if .ne 87, zf_ald 0, zf_ild 5, zf_ic 0, zf_inv h 20 40 2, zf_go 96], 87),
  (87, [zf_ald 0, zf_ild 4, zf_ild 5, zf_ic 0, zf_inv h 20 54 3], 96),
  (96, [zf_ist 5, zf_ald 0, zf_ild 5, zf_inv h 20 3 1, zf_ic 10, zf_ic2 .eq 115, zf_ald 0, zf_ild 5, zf_inv h 20 9 1], 115),
  (115, [zf_ald 0, zf_getR 20 23, zf_ild 2, zf_ald 0, zf_getI 20 17, zf_astI, zf_ald 0, zf_getR 20 24, zf_ild 2, zf_ild 4, zf_astI, zf_ald 0, zf_ild 2, zf_putI 20 30, zf_ald 0, zf_dup, zf_getI 20 17, zf_ic 1, zf_add, zf_putI 20 17, zf_ild 5, zf_ic 1, zf_add, zf_reti], 153)]
theorem zT20_33 (h : Nat) : zTab h 20 33 6 (zt20_33 h) := zTab.mk (ret := (some .int)) (bl := xk20_33) (by decide +kernel) (by decide +kernel) rfl rfl
def zt20_34 (h : Nat) : ZB := [(0, [zf_ic 0, zf_ist 1, zf_ald 0, zf_ic (-1), zf_putI 20 30], 7),
  (7, [zf_ald 0, zf_getI 20 18, zf_ic (-1), zf_ic2 .ne 84, zf_ild 1, zf_ald 0, zf_getI 20 3, zf_ic2 .lt 27, zf_ild 1, zf_if .ne 84], 27),
  (27, [zf_ald 0, zf_ild 1, zf_inv h 20 8 1, zf_ist 2, zf_ild 2, zf_ald 0, zf_getI 20 30, zf_ic 1, zf_add, zf_ic2 .le 58, zf_ald 0, zf_ild 1, zf_ald 0, zf_getI 20 30, zf_add, zf_ic 1, zf_add, zf_inv h 20 9 1, zf_go 81], 58),
  (58, [zf_ild 2, zf_if .ne 74, zf_ild 1, zf_if .le 74, zf_ald 0, zf_ild 1, zf_inv h 20 9 1, zf_go 81], 74),
  (74, [zf_ald 0, zf_ild 1, zf_ild 2, zf_inv h 20 33 2, zf_ist 1], 81),
  (81, [zf_go 7], 84),
  (84, [zf_ret], 85)]
theorem zT20_34 (h : Nat) : zTab h 20 34 3 (zt20_34 h) := zTab.mk (ret := none) (bl := xk20_34) (by decide +kernel) (by decide +kernel) rfl rfl
def zt20_35 (h : Nat) : ZB := [(0, [zf_ald 0, zf_ic 0, zf_inv h 20 2 1, zf_ist 1, zf_ald 0, zf_ic 0, zf_putI 20 29, zf_ald 0, zf_ild 1, zf_inv h 20 3 1, zf_ic 40, zf_ic2 .eq 26, zf_ald 0, zf_ild 1, zf_inv h 20 9 1], 26),
  (26, [zf_ald 0, zf_getI 20 18, zf_ic (-1), zf_ic2 .ne 41, zf_ald 0, zf_ild 1, zf_ic 0, zf_inv h 20 28 2, zf_ist 1], 41),
  (41, [zf_ald 0, zf_getI 20 18, zf_ic (-1), zf_ic2 .ne 119, zf_ald 0, zf_getI 20 29, zf_if .le 119, zf_ald 0, zf_ild 1, zf_inv h 20 2 1, zf_ist 1, zf_ald 0, zf_ild 1, zf_inv h 20 3 1, zf_ic 40, zf_ic2 .ne 85, zf_ald 0, zf_ild 1, zf_ald 0, zf_getI 20 29, zf_inv h 20 28 2, zf_ist 1, zf_go 41], 85),
  (85, [zf_ald 0, zf_ild 1, zf_inv h 20 3 1, zf_ic 41, zf_ic2 .ne 111, zf_ald 0, zf_dup, zf_getI 20 29, zf_ic 1, zf_sub, zf_putI 20 29, zf_inc 1 1, zf_go 41], 111),
  (111, [zf_ald 0, zf_ild 1, zf_inv h 20 9 1, zf_go 41], 119),
  (119, [zf_ald 0, zf_ild 1, zf_inv h 20 2 1, zf_ist 1, zf_ild 1, zf_ald 0, zf_getI 20 3, zf_ic2 .ge 138, zf_ald 0, zf_ild 1, zf_inv h 20 9 1], 138),
  (138, [zf_ret], 139)]
theorem zT20_35 (h : Nat) : zTab h 20 35 2 (zt20_35 h) := zTab.mk (ret := none) (bl := xk20_35) (by decide +kernel) (by decide +kernel) rfl rfl
def zt20_36 (h : Nat) : ZB := [(0, [zf_ald 0, zf_ild 1, zf_inv h 20 3 1, zf_ic 45, zf_ic2 .ne 16, zf_ild 1, zf_ic 1, zf_add, zf_go 17], 16),
  (16, [zf_ild 1], 17),
  (17, [zf_ist 7, zf_ald 0, zf_ild 7, zf_ic 4, zf_inv h 20 7 2, zf_ist 8, zf_ald 0, zf_getI 20 18, zf_ic (-1), zf_ic2 .ne 47, zf_ald 0, zf_ild 7, zf_ild 8, zf_inv h 20 53 2, zf_go 48], 47),
  (47, [zf_lc 0], 48),
  (48, [zf_lst 9, zf_ild 2, zf_if .eq 62, zf_lc 1000000, zf_lld 9, zf_lmul, zf_lst 9], 62),
  (62, [zf_ild 2, zf_if .eq 158, zf_ald 0, zf_getI 20 18, zf_ic (-1), zf_ic2 .ne 158, zf_ald 0, zf_ild 8, zf_inv h 20 3 1, zf_ic 46, zf_ic2 .ne 158, zf_ald 0, zf_ild 8, zf_ic 1, zf_add, zf_ic 6, zf_inv h 20 7 2, zf_ist 11, zf_ald 0, zf_getI 20 18, zf_ic (-1), zf_ic2 .ne 154, zf_ald 0, zf_ild 8, zf_ic 1, zf_add, zf_ild 11, zf_inv h 20 53 2, zf_lst 12, zf_ild 11, zf_ild 8, zf_sub, zf_ic 1, zf_sub, zf_ist 14], 126),
  (126, [zf_ild 14, zf_ic 6, zf_ic2 .ge 147, zf_lc 10, zf_lld 12, zf_lmul, zf_lst 12, zf_inc 14 1, zf_go 126], 147),
  (147, [zf_lld 9, zf_lld 12, zf_ladd, zf_lst 9], 154),
  (154, [zf_ild 11, zf_ist 8], 158),
  (158, [zf_ild 7, zf_ild 1, zf_ic2 .le 171, zf_lc 0, zf_lld 9, zf_lsub, zf_go 173], 171),
  (171, [zf_lld 9], 173),
  (173, [zf_lst 9, zf_lld 9, zf_lld 3, zf_lcmp, zf_if .lt 190, zf_lld 9, zf_lld 5, zf_lcmp, zf_if .le 195], 190),
  (190, [zf_ald 0, zf_ild 1, zf_inv h 20 9 1], 195),
  (195, [zf_ald 0, zf_lld 9, zf_putL 20 28, zf_ild 8, zf_reti], 204)]
theorem zT20_36 (h : Nat) : zTab h 20 36 15 (zt20_36 h) := zTab.mk (ret := (some .int)) (bl := xk20_36) (by decide +kernel) (by decide +kernel) rfl rfl
def zt20_37 (h : Nat) : ZB := [(0, [zf_ald 0, zf_ild 1, zf_inv h 20 3 1, zf_ic 34, zf_ic2 .eq 17, zf_ald 0, zf_ild 1, zf_inv h 20 9 1, zf_ild 1, zf_reti], 17),
  (17, [zf_ild 1, zf_ic 1, zf_add, zf_ist 2, zf_ic 0, zf_ist 3], 23),
  (23, [zf_ald 0, zf_getI 20 18, zf_ic (-1), zf_ic2 .ne 183, zf_ald 0, zf_ild 2, zf_inv h 20 3 1, zf_ic 34, zf_ic2 .eq 183, zf_ald 0, zf_ild 2, zf_inv h 20 3 1, zf_ic 92, zf_ic2 .ne 55, zf_ic 1, zf_go 56], 55),
  (55, [zf_ic 0], 56),
  (56, [zf_ist 4, zf_ild 4, zf_if .eq 73, zf_ald 0, zf_ild 2, zf_ic 1, zf_add, zf_inv h 20 3 1, zf_go 78], 73),
  (73, [zf_ald 0, zf_ild 2, zf_inv h 20 3 1], 78),
  (78, [zf_ist 5, zf_ild 3, zf_ic 40, zf_ic2 .eq 96, zf_ald 0, zf_ild 2, zf_inv h 20 3 1, zf_ic 32, zf_ic2 .ge 104], 96),
  (96, [zf_ald 0, zf_ild 2, zf_inv h 20 9 1, zf_go 180], 104),
  (104, [zf_ild 4, zf_if .eq 133, zf_ild 5, zf_ic 34, zf_ic2 .eq 133, zf_ild 5, zf_ic 92, zf_ic2 .eq 133, zf_ald 0, zf_ild 2, zf_ic 1, zf_add, zf_inv h 20 9 1, zf_go 180], 133),
  (133, [zf_ald 0, zf_getI 20 15, zf_if .eq 164, zf_ald 0, zf_getR 20 9, zf_ic 80, zf_ald 0, zf_getI 20 17, zf_mul, zf_ic 40, zf_ald 0, zf_getI 20 21, zf_mul, zf_add, zf_ild 3, zf_add, zf_ild 5, zf_astI], 164),
  (164, [zf_inc 3 1, zf_ild 2, zf_ild 4, zf_if .eq 177, zf_ic 2, zf_go 178], 177),
  (177, [zf_ic 1], 178),
  (178, [zf_add, zf_ist 2], 180),
  (180, [zf_go 23], 183),
  (183, [zf_ald 0, zf_getI 20 15, zf_if .eq 207, zf_ald 0, zf_getR 20 8, zf_ic 2, zf_ald 0, zf_getI 20 17, zf_mul, zf_ald 0, zf_getI 20 21, zf_add, zf_ild 3, zf_astI], 207),
  (207, [zf_ild 2, zf_ic 1, zf_add, zf_reti], 211)]
theorem zT20_37 (h : Nat) : zTab h 20 37 6 (zt20_37 h) := zTab.mk (ret := (some .int)) (bl := xk20_37) (by decide +kernel) (by decide +kernel) rfl rfl
def zt20_38 (h : Nat) : ZB := [(0, [zf_ald 0, zf_getI 20 15, zf_if .eq 20, zf_ald 0, zf_getR 20 10, zf_ald 0, zf_getI 20 17, zf_ald 0, zf_getI 20 22, zf_astI], 20),
  (20, [zf_ald 0, zf_ild 1, zf_inv h 20 23 1, zf_ist 3, zf_ald 0, zf_ild 1, zf_ild 3, zf_inv h 20 19 2], 32),
  (32, [zf_ald 0, zf_getI 20 18, zf_ic (-1), zf_ic2 .ne 81, zf_ild 3, zf_ald 0, zf_getI 20 3, zf_ic2 .ge 81, zf_ald 0, zf_ild 3, zf_ic 1, zf_add, zf_inv h 20 8 1, zf_ild 2, zf_ic2 .le 81, zf_ald 0, zf_ild 3, zf_ic 1, zf_add, zf_inv h 20 23 1, zf_ist 4, zf_ald 0, zf_ild 3, zf_ild 4, zf_inv h 20 19 2, zf_ild 4, zf_ist 3, zf_go 32], 81),
  (81, [zf_ild 3, zf_ald 0, zf_getI 20 3, zf_ic2 .ne 94, zf_ald 0, zf_ild 3, zf_inv h 20 9 1], 94),
  (94, [zf_ald 0, zf_dup, zf_getI 20 17, zf_ic 1, zf_add, zf_putI 20 17, zf_ild 3, zf_ic 1, zf_add, zf_reti], 108)]
theorem zT20_38 (h : Nat) : zTab h 20 38 5 (zt20_38 h) := zTab.mk (ret := (some .int)) (bl := xk20_38) (by decide +kernel) (by decide +kernel) rfl rfl
def zt20_39 (h : Nat) : ZB := [(0, [zf_ild 1, zf_ild 2, zf_inst h 20 10 2, zf_ist 4, zf_ild 4, zf_ic 3, zf_ic2 .ne 33, zf_ald 0, zf_ild 3, zf_inv h 20 37 1, zf_ist 5, zf_ald 0, zf_dup, zf_getI 20 21, zf_ic 1, zf_add, zf_putI 20 21, zf_go 98], 33),
  (33, [zf_ald 0, zf_ild 3, zf_ild 4, zf_ic 1, zf_ic2 .ne 45, zf_ic 1, zf_go 46], 45),
  (45, [zf_ic 0], 46),
  (46, [zf_ild 1, zf_ild 2, zf_inst h 20 22 2, zf_ild 1, zf_ild 2, zf_inst h 20 24 2, zf_inv h 20 36 4, zf_ist 5, zf_ald 0, zf_getI 20 15, zf_if .eq 88, zf_ald 0, zf_getR 20 7, zf_ic 5, zf_ald 0, zf_getI 20 17, zf_mul, zf_ald 0, zf_getI 20 20, zf_add, zf_ald 0, zf_getL 20 28, zf_astL], 88),
  (88, [zf_ald 0, zf_dup, zf_getI 20 20, zf_ic 1, zf_add, zf_putI 20 20], 98),
  (98, [zf_ild 5, zf_reti], 101)]
theorem zT20_39 (h : Nat) : zTab h 20 39 6 (zt20_39 h) := zTab.mk (ret := (some .int)) (bl := xk20_39) (by decide +kernel) (by decide +kernel) rfl rfl
def zt20_40 (h : Nat) : ZB := [(0, [zf_ald 0, zf_ild 1, zf_ild 2, zf_inv h 20 48 2, zf_ist 3, zf_ald 0, zf_getI 20 18, zf_ic (-1), zf_ic2 .eq 17, zf_ild 3, zf_reti], 17),
  (17, [zf_ald 0, zf_ild 3, zf_ic 0, zf_lc 1, zf_lc 3, zf_inv h 20 36 4, zf_ist 4, zf_ald 0, zf_ald 0, zf_getL 20 28, zf_l2i, zf_putI 20 16, zf_ild 4, zf_reti], 41)]
theorem zT20_40 (h : Nat) : zTab h 20 40 5 (zt20_40 h) := zTab.mk (ret := (some .int)) (bl := xk20_40) (by decide +kernel) (by decide +kernel) rfl rfl
def zt20_41 (h : Nat) : ZB := [(0, [zf_ald 0, zf_getR 20 25, zf_ald 0, zf_getI 20 26, zf_ild 1, zf_astI, zf_ald 0, zf_dup, zf_getI 20 26, zf_ic 1, zf_add, zf_putI 20 26, zf_ret], 21)]
theorem zT20_41 (h : Nat) : zTab h 20 41 2 (zt20_41 h) := zTab.mk (ret := none) (bl := xk20_41) (by decide +kernel) (by decide +kernel) rfl rfl
def zt20_42 (h : Nat) : ZB := [(0, [zf_ic 0, zf_ist 2], 2),
  (2, [zf_ild 2, zf_ild 1, zf_ic2 .ge 31, zf_ald 0, zf_ald 0, zf_getI 20 1, zf_if .ne 20, zf_ic 32, zf_go 22], 20),
  (20, [zf_ic 46], 22),
  (22, [zf_inv h 20 41 1, zf_inc 2 1, zf_go 2], 31),
  (31, [zf_ret], 32)]
theorem zT20_42 (h : Nat) : zTab h 20 42 3 (zt20_42 h) := zTab.mk (ret := none) (bl := xk20_42) (by decide +kernel) (by decide +kernel) rfl rfl
def zt20_43 (h : Nat) : ZB := [(0, [zf_lld 1, zf_lc 0, zf_lcmp, zf_if .ge 12, zf_lc 0, zf_lld 1, zf_lsub, zf_go 13], 12),
  (12, [zf_lld 1], 13),
  (13, [zf_lst 3, zf_ald 0, zf_lld 3, zf_lc 1000000, zf_ldiv, zf_inv h 20 47 1, zf_lld 3, zf_lc 1000000, zf_lrem, zf_lst 3, zf_lld 3, zf_lc 0, zf_lcmp, zf_if .le 41, zf_ald 0, zf_ic 46, zf_inv h 20 41 1], 41),
  (41, [zf_lc 100000, zf_lst 5], 46),
  (46, [zf_lld 3, zf_lc 0, zf_lcmp, zf_if .le 80, zf_ald 0, zf_lld 3, zf_lld 5, zf_ldiv, zf_l2i, zf_ic 48, zf_add, zf_inv h 20 41 1, zf_lld 3, zf_lld 5, zf_lrem, zf_lst 3, zf_lld 5, zf_lc 10, zf_ldiv, zf_lst 5, zf_go 46], 80),
  (80, [zf_ret], 81)]
theorem zT20_43 (h : Nat) : zTab h 20 43 7 (zt20_43 h) := zTab.mk (ret := none) (bl := xk20_43) (by decide +kernel) (by decide +kernel) rfl rfl
def zt20_44 (h : Nat) : ZB := [(0, [zf_ild 1, zf_inst h 20 26 1, zf_lst 2, zf_lc 1, zf_lst 4], 8),
  (8, [zf_lld 2, zf_lld 4, zf_ldiv, zf_lc 27, zf_lcmp, zf_if .lt 30, zf_lc 27, zf_lld 4, zf_lmul, zf_lst 4, zf_go 8], 30),
  (30, [zf_lld 4, zf_lc 0, zf_lcmp, zf_if .le 64, zf_ald 0, zf_lld 2, zf_lld 4, zf_ldiv, zf_lc 27, zf_lrem, zf_l2i, zf_ic 96, zf_add, zf_inv h 20 41 1, zf_lld 4, zf_lc 27, zf_ldiv, zf_lst 4, zf_go 30], 64),
  (64, [zf_ret], 65)]
theorem zT20_44 (h : Nat) : zTab h 20 44 6 (zt20_44 h) := zTab.mk (ret := none) (bl := xk20_44) (by decide +kernel) (by decide +kernel) rfl rfl
def zt20_45 (h : Nat) : ZB := [(0, [zf_ald 0, zf_getR 20 5, zf_ild 1, zf_aldI 100, zf_ic 9, zf_ic2 .ne 47, zf_ic 0, zf_ist 2], 13),
  (13, [zf_ild 2, zf_ald 0, zf_getR 20 11, zf_ild 1, zf_aldI 100, zf_ic2 .ge 46, zf_ald 0, zf_ald 0, zf_getR 20 12, zf_ald 0, zf_getR 20 10, zf_ild 1, zf_aldI 100, zf_ild 2, zf_add, zf_aldI 100, zf_inv h 20 41 1, zf_inc 2 1, zf_go 13], 46),
  (46, [zf_ret], 47),
  (47, [zf_ald 0, zf_getI 20 1, zf_if .ne 60, zf_ald 0, zf_ic 40, zf_inv h 20 41 1], 60),
  (60, [zf_ald 0, zf_ald 0, zf_getR 20 5, zf_ild 1, zf_aldI 100, zf_inv h 20 44 1, zf_ald 0, zf_getR 20 5, zf_ild 1, zf_aldI 100, zf_if .ne 91, zf_ald 0, zf_ic 32, zf_inv h 20 41 1, zf_ald 0, zf_ic 51, zf_inv h 20 41 1], 91),
  (91, [zf_ic 0, zf_ist 2, zf_ic 0, zf_ist 3, zf_ic 0, zf_ist 4], 98),
  (98, [zf_ald 0, zf_getR 20 5, zf_ild 1, zf_aldI 100, zf_ild 4, zf_inst h 20 10 2, zf_if .eq 218, zf_ald 0, zf_ic 32, zf_inv h 20 41 1, zf_ald 0, zf_getR 20 5, zf_ild 1, zf_aldI 100, zf_ild 4, zf_inst h 20 10 2, zf_ist 5, zf_ild 5, zf_ic 3, zf_ic2 .ne 149, zf_ald 0, zf_ild 1, zf_ild 3, zf_inv h 20 46 2, zf_inc 3 1, zf_go 212], 149),
  (149, [zf_ald 0, zf_getR 20 7, zf_ic 5, zf_ild 1, zf_mul, zf_ild 2, zf_add, zf_aldL, zf_lst 6, zf_lld 6, zf_lc 0, zf_lcmp, zf_if .ge 174, zf_ald 0, zf_ic 45, zf_inv h 20 41 1], 174),
  (174, [zf_ild 5, zf_ic 1, zf_ic2 .ne 189, zf_ald 0, zf_lld 6, zf_inv h 20 43 1, zf_go 209], 189),
  (189, [zf_ald 0, zf_lld 6, zf_lc 0, zf_lcmp, zf_if .ge 204, zf_lc 0, zf_lld 6, zf_lsub, zf_go 206], 204),
  (204, [zf_lld 6], 206),
  (206, [zf_inv h 20 47 1], 209),
  (209, [zf_inc 2 1], 212),
  (212, [zf_inc 4 1, zf_go 98], 218),
  (218, [zf_ret], 219)]
theorem zT20_45 (h : Nat) : zTab h 20 45 8 (zt20_45 h) := zTab.mk (ret := none) (bl := xk20_45) (by decide +kernel) (by decide +kernel) rfl rfl
def zt20_46 (h : Nat) : ZB := [(0, [zf_ald 0, zf_ic 34, zf_inv h 20 41 1, zf_ic 0, zf_ist 3], 8),
  (8, [zf_ild 3, zf_ald 0, zf_getR 20 8, zf_ic 2, zf_ild 1, zf_mul, zf_ild 2, zf_add, zf_aldI 100, zf_ic2 .ge 72, zf_ald 0, zf_getR 20 9, zf_ic 80, zf_ild 1, zf_mul, zf_ic 40, zf_ild 2, zf_mul, zf_add, zf_ild 3, zf_add, zf_aldI 100, zf_ist 4, zf_ild 4, zf_ic 34, zf_ic2 .eq 54, zf_ild 4, zf_ic 92, zf_ic2 .ne 60], 54),
  (54, [zf_ald 0, zf_ic 92, zf_inv h 20 41 1], 60),
  (60, [zf_ald 0, zf_ild 4, zf_inv h 20 41 1, zf_inc 3 1, zf_go 8], 72),
  (72, [zf_ald 0, zf_ic 34, zf_inv h 20 41 1, zf_ret], 79)]
theorem zT20_46 (h : Nat) : zTab h 20 46 5 (zt20_46 h) := zTab.mk (ret := none) (bl := xk20_46) (by decide +kernel) (by decide +kernel) rfl rfl
def zt20_47 (h : Nat) : ZB := [(0, [zf_lc 1, zf_lst 3], 2),
  (2, [zf_lld 1, zf_lld 3, zf_ldiv, zf_lc 10, zf_lcmp, zf_if .lt 21, zf_lc 10, zf_lld 3, zf_lmul, zf_lst 3, zf_go 2], 21),
  (21, [zf_lld 3, zf_lc 0, zf_lcmp, zf_if .le 51, zf_ald 0, zf_lld 1, zf_lld 3, zf_ldiv, zf_lc 10, zf_lrem, zf_l2i, zf_ic 48, zf_add, zf_inv h 20 41 1, zf_lld 3, zf_lc 10, zf_ldiv, zf_lst 3, zf_go 21], 51),
  (51, [zf_ret], 52)]
theorem zT20_47 (h : Nat) : zTab h 20 47 5 (zt20_47 h) := zTab.mk (ret := none) (bl := xk20_47) (by decide +kernel) (by decide +kernel) rfl rfl
def zt20_48 (h : Nat) : ZB := [(0, [zf_ald 0, zf_ild 1, zf_inv h 20 3 1, zf_ic 32, zf_ic2 .eq 24, zf_ild 2, zf_if .eq 28, zf_ald 0, zf_ild 1, zf_inv h 20 3 1, zf_ic 10, zf_ic2 .ne 28], 24),
  (24, [zf_ic 1, zf_go 29], 28),
  (28, [zf_ic 0], 29),
  (29, [zf_ist 3, zf_ild 3, zf_if .ne 39, zf_ald 0, zf_ild 1, zf_inv h 20 9 1], 39),
  (39, [zf_ild 2, zf_if .eq 51, zf_ald 0, zf_ild 1, zf_inv h 20 2 1, zf_go 54], 51),
  (51, [zf_ild 1, zf_ic 1, zf_add], 54),
  (54, [zf_reti], 55)]
theorem zT20_48 (h : Nat) : zTab h 20 48 4 (zt20_48 h) := zTab.mk (ret := (some .int)) (bl := xk20_48) (by decide +kernel) (by decide +kernel) rfl rfl
def zt20_49 (h : Nat) : ZB := [(0, [zf_lc 27, zf_ild 0, zf_i2l, zf_lmul, zf_ild 1, zf_i2l, zf_ladd, zf_lst 6, zf_ild 2, zf_if .le 27, zf_lc 27, zf_lld 6, zf_lmul, zf_ild 2, zf_i2l, zf_ladd, zf_go 29], 27),
  (27, [zf_lld 6], 29),
  (29, [zf_lst 6, zf_ild 3, zf_if .le 47, zf_lc 27, zf_lld 6, zf_lmul, zf_ild 3, zf_i2l, zf_ladd, zf_go 49], 47),
  (47, [zf_lld 6], 49),
  (49, [zf_lst 6, zf_ild 4, zf_if .le 69, zf_lc 27, zf_lld 6, zf_lmul, zf_ild 4, zf_i2l, zf_ladd, zf_go 71], 69),
  (69, [zf_lld 6], 71),
  (71, [zf_lst 6, zf_ild 5, zf_if .le 91, zf_lc 27, zf_lld 6, zf_lmul, zf_ild 5, zf_i2l, zf_ladd, zf_go 93], 91),
  (91, [zf_lld 6], 93),
  (93, [zf_retl], 94)]
theorem zT20_49 (h : Nat) : zTab h 20 49 8 (zt20_49 h) := zTab.mk (ret := (some .long)) (bl := xk20_49) (by decide +kernel) (by decide +kernel) rfl rfl
def zt20_50 (h : Nat) : ZB := [(0, [zf_ald 0, zf_ild 1, zf_inv h 20 17 1, zf_if .eq 27, zf_ald 0, zf_getR 20 5, zf_ild 1, zf_aldI 100, zf_ild 2, zf_ic 1, zf_inst h 20 11 3, zf_ic (-1), zf_ic2 .eq 27, zf_ic 1, zf_go 28], 27),
  (27, [zf_ic 0], 28),
  (28, [zf_ist 4, zf_ald 0, zf_ild 4, zf_if .eq 59, zf_ild 3, zf_ic (-1), zf_ic2 .lt 59, zf_ild 3, zf_ald 0, zf_getR 20 8, zf_ic 2, zf_ild 1, zf_mul, zf_ild 2, zf_add, zf_aldI 100, zf_ic2 .ge 59, zf_ic 0, zf_go 60], 59),
  (59, [zf_ic 1], 60),
  (60, [zf_putI 20 0, zf_ald 0, zf_getI 20 0, zf_if .eq 72, zf_ic 0, zf_reti], 72),
  (72, [zf_ild 3, zf_ic (-1), zf_ic2 .ne 90, zf_ald 0, zf_getR 20 8, zf_ic 2, zf_ild 1, zf_mul, zf_ild 2, zf_add, zf_aldI 100, zf_go 106], 90),
  (90, [zf_ald 0, zf_getR 20 9, zf_ic 80, zf_ild 1, zf_mul, zf_ic 40, zf_ild 2, zf_mul, zf_add, zf_ild 3, zf_add, zf_aldI 100], 106),
  (106, [zf_reti], 107)]
theorem zT20_50 (h : Nat) : zTab h 20 50 5 (zt20_50 h) := zTab.mk (ret := (some .int)) (bl := xk20_50) (by decide +kernel) (by decide +kernel) rfl rfl
def zt20_51 (h : Nat) : ZB := [(0, [zf_ald 0, zf_getI 20 0, zf_reti], 5)]
theorem zT20_51 (h : Nat) : zTab h 20 51 1 (zt20_51 h) := zTab.mk (ret := (some .int)) (bl := xk20_51) (by decide +kernel) (by decide +kernel) rfl rfl
def zt20_52 (h : Nat) : ZB := [(0, [zf_ald 0, zf_ic 0, zf_putI 20 0, zf_ild 1, zf_ic 32, zf_ic2 .lt 17, zf_ild 1, zf_ic 126, zf_ic2 .le 23], 17),
  (17, [zf_ild 1, zf_ic 10, zf_ic2 .ne 27], 23),
  (23, [zf_ic 1, zf_go 28], 27),
  (27, [zf_ic 0], 28),
  (28, [zf_ist 2, zf_ild 2, zf_if .eq 43, zf_ald 0, zf_getI 20 3, zf_ic 4000, zf_ic2 .ne 45], 43),
  (43, [zf_ic 0, zf_retz], 45),
  (45, [zf_ald 0, zf_getR 20 2, zf_ald 0, zf_getI 20 3, zf_ild 1, zf_astI, zf_ald 0, zf_dup, zf_getI 20 3, zf_ic 1, zf_add, zf_putI 20 3, zf_ic 1, zf_retz], 67)]
theorem zT20_52 (h : Nat) : zTab h 20 52 3 (zt20_52 h) := zTab.mk (ret := (some .boolean)) (bl := xk20_52) (by decide +kernel) (by decide +kernel) rfl rfl
def zt20_53 (h : Nat) : ZB := [(0, [zf_lc 0, zf_lst 3, zf_ild 1, zf_ist 5], 5),
  (5, [zf_ild 5, zf_ild 2, zf_ic2 .ge 53, zf_ald 0, zf_getR 20 2, zf_ild 5, zf_aldI 100, zf_inst h 20 16 1, zf_if .eq 45, zf_lc 10, zf_lld 3, zf_lmul, zf_ald 0, zf_getR 20 2, zf_ild 5, zf_aldI 100, zf_i2l, zf_ladd, zf_lc 48, zf_lsub, zf_go 46], 45),
  (45, [zf_lld 3], 46),
  (46, [zf_lst 3, zf_inc 5 1, zf_go 5], 53),
  (53, [zf_lld 3, zf_retl], 55)]
theorem zT20_53 (h : Nat) : zTab h 20 53 6 (zt20_53 h) := zTab.mk (ret := (some .long)) (bl := xk20_53) (by decide +kernel) (by decide +kernel) rfl rfl
def zt20_54 (h : Nat) : ZB := [(0, [zf_ild 2, zf_ist 4, zf_ild 1, zf_ald 0, zf_getI 20 16, zf_inst h 20 12 2, zf_ist 5, zf_ic 0, zf_ist 6], 16),
  (16, [zf_ild 6, zf_ild 5, zf_ic2 .ge 65, zf_ald 0, zf_getI 20 18, zf_ic (-1), zf_ic2 .ne 65, zf_ald 0, zf_ild 4, zf_ild 3, zf_inv h 20 48 2, zf_ist 4, zf_ald 0, zf_getI 20 18, zf_ic (-1), zf_ic2 .ne 59, zf_ald 0, zf_ild 1, zf_ild 6, zf_ild 4, zf_inv h 20 39 3, zf_ist 4], 59),
  (59, [zf_inc 6 1, zf_go 16], 65),
  (65, [zf_ild 4, zf_reti], 68)]
theorem zT20_54 (h : Nat) : zTab h 20 54 7 (zt20_54 h) := zTab.mk (ret := (some .int)) (bl := xk20_54) (by decide +kernel) (by decide +kernel) rfl rfl
def zt20_55 (h : Nat) : ZB := [(0, [zf_ald 0, zf_ild 1, zf_if .ge 9, zf_ic 1, zf_go 21], 9),
  (9, [zf_ald 0, zf_getI 20 4, zf_if .ne 20, zf_ic 2, zf_go 21], 20),
  (20, [zf_ic 0], 21),
  (21, [zf_putI 20 0, zf_ald 0, zf_getI 20 0, zf_if .eq 33, zf_ic 0, zf_reti], 33),
  (33, [zf_ald 0, zf_getI 20 27, zf_if .eq 44, zf_ald 0, zf_inv h 20 56 0], 44),
  (44, [zf_ild 1, zf_ald 0, zf_getI 20 26, zf_ic2 .ge 61, zf_ald 0, zf_getR 20 25, zf_ild 1, zf_aldI 100, zf_go 62], 61),
  (61, [zf_ic (-1)], 62),
  (62, [zf_reti], 63)]
theorem zT20_55 (h : Nat) : zTab h 20 55 2 (zt20_55 h) := zTab.mk (ret := (some .int)) (bl := xk20_55) (by decide +kernel) (by decide +kernel) rfl rfl
def zt20_56 (h : Nat) : ZB := [(0, [zf_ald 0, zf_ic 0, zf_putI 20 26, zf_ic 0, zf_ist 1, zf_ic 0, zf_ist 2, zf_ald 0, zf_ic 0, zf_inv h 20 45 1, zf_ic 1, zf_ist 3], 16),
  (16, [zf_ild 1, zf_ic (-1), zf_ic2 .eq 107, zf_ald 0, zf_ild 1, zf_ild 3, zf_inv h 20 5 2, zf_ist 4, zf_ild 4, zf_ic (-1), zf_ic2 .eq 66, zf_ald 0, zf_ic 10, zf_inv h 20 41 1, zf_inc 2 1, zf_ald 0, zf_ild 2, zf_inv h 20 42 1, zf_ald 0, zf_ild 4, zf_inv h 20 45 1, zf_ild 4, zf_ist 1, zf_ild 4, zf_ic 1, zf_add, zf_ist 3, zf_go 104], 66),
  (66, [zf_ald 0, zf_getI 20 1, zf_if .ne 90, zf_ald 0, zf_getR 20 5, zf_ild 1, zf_aldI 100, zf_ic 9, zf_ic2 .eq 90, zf_ald 0, zf_ic 41, zf_inv h 20 41 1], 90),
  (90, [zf_ild 1, zf_ic 1, zf_add, zf_ist 3, zf_ald 0, zf_getR 20 6, zf_ild 1, zf_aldI 100, zf_ist 1, zf_inc 2 (-1)], 104),
  (104, [zf_go 16], 107),
  (107, [zf_ald 0, zf_ic 10, zf_inv h 20 41 1, zf_ald 0, zf_ic 0, zf_putZ 20 27, zf_ret], 119)]
theorem zT20_56 (h : Nat) : zTab h 20 56 5 (zt20_56 h) := zTab.mk (ret := none) (bl := xk20_56) (by decide +kernel) (by decide +kernel) rfl rfl
def zt21_0 (h : Nat) : ZB := [(0, [zf_ald 0, zf_getR 21 31, zf_nnl 9, zf_ic (-1), zf_reti], 9),
  (9, [zf_ald 0, zf_getR 21 31, zf_ild 1, zf_ild 2, zf_ild 3, zf_inv h 15 15 3, zf_ist 4, zf_ald 0, zf_getR 21 31, zf_inv h 15 25 0, zf_if .ne 36, zf_ild 4, zf_go 37], 36),
  (36, [zf_ic (-1)], 37),
  (37, [zf_reti], 38)]
theorem zT21_0 (h : Nat) : zTab h 21 0 5 (zt21_0 h) := zTab.mk (ret := (some .int)) (bl := xk21_0) (by decide +kernel) (by decide +kernel) rfl rfl
def zt21_1 (h : Nat) : ZB := [(0, [zf_ald 0, zf_getR 21 50, zf_ild 1, zf_ild 2, zf_ild 3, zf_inv h 19 0 3, zf_ist 4, zf_ald 0, zf_getR 21 50, zf_inv h 19 33 0, zf_if .ne 31, zf_ald 0, zf_ild 4, zf_inv h 21 12 1, zf_go 36], 31),
  (31, [zf_ald 0, zf_ic 2, zf_inv h 21 47 1], 36),
  (36, [zf_reti], 37)]
theorem zT21_1 (h : Nat) : zTab h 21 1 5 (zt21_1 h) := zTab.mk (ret := (some .int)) (bl := xk21_1) (by decide +kernel) (by decide +kernel) rfl rfl
def zt21_2 (h : Nat) : ZB := [(0, [zf_ald 0, zf_ald 0, zf_getR 21 12, zf_nnl 12, zf_ic 3, zf_go 31], 12),
  (12, [zf_ald 0, zf_getR 21 12, zf_ild 1, zf_ild 2, zf_ild 3, zf_inv h 17 4 3, zf_ic (-1), zf_ic2 .ne 30, zf_ic 2, zf_go 31], 30),
  (30, [zf_ic 0], 31),
  (31, [zf_inv h 21 48 1, zf_if .eq 39, zf_ic 0, zf_retz], 39),
  (39, [zf_ald 0, zf_ald 0, zf_getR 21 12, zf_ild 1, zf_ild 2, zf_ild 3, zf_inv h 17 1 3, zf_if .eq 57, zf_ic 0, zf_go 58], 57),
  (57, [zf_ic 4], 58),
  (58, [zf_inv h 21 48 1, zf_if .ne 68, zf_ic 1, zf_go 69], 68),
  (68, [zf_ic 0], 69),
  (69, [zf_retz], 70)]
theorem zT21_2 (h : Nat) : zTab h 21 2 4 (zt21_2 h) := zTab.mk (ret := (some .boolean)) (bl := xk21_2) (by decide +kernel) (by decide +kernel) rfl rfl
def zt21_3 (h : Nat) : ZB := [(0, [zf_ald 0, zf_getR 21 12, zf_nnl 9, zf_ic (-1), zf_reti], 9),
  (9, [zf_ald 0, zf_getR 21 12, zf_ild 1, zf_ild 2, zf_inv h 17 2 2, zf_ist 3, zf_ald 0, zf_getR 21 12, zf_inv h 17 32 0, zf_if .ne 33, zf_ild 3, zf_go 34], 33),
  (33, [zf_ic (-1)], 34),
  (34, [zf_reti], 35)]
theorem zT21_3 (h : Nat) : zTab h 21 3 4 (zt21_3 h) := zTab.mk (ret := (some .int)) (bl := xk21_3) (by decide +kernel) (by decide +kernel) rfl rfl
def zt21_4 (h : Nat) : ZB := [(0, [zf_ald 0, zf_getR 21 7, zf_nnl 13, zf_ald 0, zf_ic 3, zf_inv h 21 47 1, zf_reti], 13),
  (13, [zf_ald 0, zf_getI 21 14, zf_ic 6, zf_ic2 .ne 28, zf_ald 0, zf_ic 1, zf_inv h 21 47 1, zf_reti], 28),
  (28, [zf_ald 0, zf_new 17 25, zf_dup, zf_ild 1, zf_ild 2, zf_ild 3, zf_lld 4, zf_ins h 17 11 4, zf_putR 21 12, zf_ald 0, zf_ald 0, zf_getR 21 7, zf_putR 21 13, zf_ald 0, zf_ic 0, zf_putI 21 15, zf_ald 0, zf_ic 0, zf_putI 21 22, zf_ald 0, zf_dup, zf_getI 21 14, zf_ic 1, zf_add, zf_putI 21 14, zf_ald 0, zf_ald 0, zf_getI 21 14, zf_ic 1, zf_sub, zf_inv h 21 12 1, zf_reti], 83)]
theorem zT21_4 (h : Nat) : zTab h 21 4 6 (zt21_4 h) := zTab.mk (ret := (some .int)) (bl := xk21_4) (by decide +kernel) (by decide +kernel) rfl rfl
def zt21_5 (h : Nat) : ZB := [(0, [zf_ald 0, zf_getR 21 50, zf_ild 1, zf_ild 2, zf_inv h 19 17 2, zf_if .ne 14, zf_ic (-1), zf_reti], 14),
  (14, [zf_ic 8, zf_ild 1, zf_mul, zf_ild 2, zf_add, zf_ist 5, zf_ald 0, zf_getR 21 50, zf_inv h 19 6 0, zf_ald 0, zf_getR 21 50, zf_ild 1, zf_inv h 19 4 1, zf_if .eq 112, zf_ald 0, zf_getR 21 50, zf_ald 0, zf_getR 21 50, zf_getR 19 10, zf_ild 5, zf_aldI 100, zf_ic 256, zf_div, zf_inv h 19 4 1, zf_if .eq 112, zf_ald 0, zf_getR 21 50, zf_ald 0, zf_getR 21 50, zf_getR 19 10, zf_ild 5, zf_aldI 100, zf_ic 256, zf_rem, zf_inv h 19 4 1, zf_if .eq 112, zf_ald 0, zf_getR 21 50, zf_ald 0, zf_getR 21 50, zf_getR 19 11, zf_ild 5, zf_aldI 100, zf_inv h 19 4 1, zf_if .eq 112, zf_ic 1, zf_go 113], 112),
  (112, [zf_ic 0], 113),
  (113, [zf_ist 6, zf_ic 0, zf_ist 7], 118),
  (118, [zf_ild 7, zf_ald 0, zf_getR 21 50, zf_getR 19 11, zf_ild 5, zf_aldI 100, zf_ic2 .ge 164, zf_ald 0, zf_getR 21 50, zf_ald 0, zf_getR 21 50, zf_getR 19 12, zf_ic 64, zf_ild 5, zf_mul, zf_ild 7, zf_add, zf_aldI 100, zf_inv h 19 4 1, zf_ist 6, zf_inc 7 1, zf_go 118], 164),
  (164, [zf_ic 0, zf_ist 7], 167),
  (167, [zf_ald 0, zf_getR 21 50, zf_ild 1, zf_ild 2, zf_ild 7, zf_inv h 19 24 3, zf_ic (-1), zf_ic2 .eq 208, zf_ald 0, zf_getR 21 50, zf_ald 0, zf_getR 21 50, zf_ild 1, zf_ild 2, zf_ild 7, zf_inv h 19 24 3, zf_inv h 19 4 1, zf_ist 6, zf_inc 7 1, zf_go 167], 208),
  (208, [zf_ild 3, zf_ic (-1), zf_ic2 .lt 224, zf_ild 3, zf_ald 0, zf_getR 21 50, zf_getI 19 17, zf_ic2 .lt 226], 224),
  (224, [zf_ic (-1), zf_reti], 226),
  (226, [zf_ild 3, zf_ic (-1), zf_ic2 .eq 243, zf_ald 0, zf_getR 21 50, zf_ild 3, zf_ild 4, zf_inv h 19 23 2, zf_ist 6], 243),
  (243, [zf_ald 0, zf_getR 21 50, zf_inv h 19 5 0, zf_reti], 251)]
theorem zT21_5 (h : Nat) : zTab h 21 5 8 (zt21_5 h) := zTab.mk (ret := (some .int)) (bl := xk21_5) (by decide +kernel) (by decide +kernel) rfl rfl
def zt21_6 (h : Nat) : ZB := [(0, [zf_ald 0, zf_getR 21 31, zf_nnl 9, zf_ic (-1), zf_reti], 9),
  (9, [zf_ald 0, zf_getR 21 31, zf_ild 1, zf_inv h 15 16 1, zf_ist 2, zf_ald 0, zf_getR 21 31, zf_inv h 15 25 0, zf_if .ne 32, zf_ild 2, zf_go 33], 32),
  (32, [zf_ic (-1)], 33),
  (33, [zf_reti], 34)]
theorem zT21_6 (h : Nat) : zTab h 21 6 3 (zt21_6 h) := zTab.mk (ret := (some .int)) (bl := xk21_6) (by decide +kernel) (by decide +kernel) rfl rfl
def zt21_7 (h : Nat) : ZB := [(0, [zf_ald 0, zf_ald 0, zf_getR 21 12, zf_nnl 12, zf_ic 3, zf_go 13], 12),
  (12, [zf_ic 0], 13),
  (13, [zf_inv h 21 48 1, zf_if .eq 21, zf_ic 0, zf_retz], 21),
  (21, [zf_ald 0, zf_getR 21 12, zf_ild 1, zf_ild 2, zf_ild 3, zf_ild 4, zf_inv h 17 6 4, zf_ist 5, zf_ald 0, zf_ald 0, zf_getR 21 12, zf_inv h 17 32 0, zf_if .ne 50, zf_ic 0, zf_go 51], 50),
  (50, [zf_ic 2], 51),
  (51, [zf_inv h 21 48 1, zf_if .ne 61, zf_ic 1, zf_go 62], 61),
  (61, [zf_ic 0], 62),
  (62, [zf_retz], 63)]
theorem zT21_7 (h : Nat) : zTab h 21 7 6 (zt21_7 h) := zTab.mk (ret := (some .boolean)) (bl := xk21_7) (by decide +kernel) (by decide +kernel) rfl rfl
def zt21_8 (h : Nat) : ZB := [(0, [zf_ald 0, zf_getR 21 12, zf_nnl 11, zf_lc (-1), zf_retl], 11),
  (11, [zf_ald 0, zf_getR 21 12, zf_ild 1, zf_inv h 17 7 1, zf_lst 2, zf_ald 0, zf_getR 21 12, zf_inv h 17 32 0, zf_if .ne 34, zf_lld 2, zf_go 37], 34),
  (34, [zf_lc (-1)], 37),
  (37, [zf_retl], 38)]
theorem zT21_8 (h : Nat) : zTab h 21 8 4 (zt21_8 h) := zTab.mk (ret := (some .long)) (bl := xk21_8) (by decide +kernel) (by decide +kernel) rfl rfl
def zt21_9 (h : Nat) : ZB := [(0, [zf_ald 0, zf_ald 0, zf_getR 21 48, zf_getI 13 2, zf_if .eq 15, zf_ic 3, zf_go 48], 15),
  (15, [zf_ild 1, zf_if .lt 30, zf_ild 1, zf_ald 0, zf_getR 21 48, zf_getI 13 5, zf_ic2 .le 34], 30),
  (30, [zf_ic 2, zf_go 48], 34),
  (34, [zf_ald 0, zf_getI 21 49, zf_ic 16, zf_ic2 .ne 47, zf_ic 1, zf_go 48], 47),
  (47, [zf_ic 0], 48),
  (48, [zf_inv h 21 48 1, zf_if .eq 56, zf_ic 0, zf_retz], 56),
  (56, [zf_ald 0, zf_dup, zf_getI 21 49, zf_ic 1, zf_add, zf_putI 21 49, zf_ald 0, zf_getR 21 48, zf_ild 1, zf_inv h 13 3 1, zf_ist 2, zf_ic 1, zf_retz], 77)]
theorem zT21_9 (h : Nat) : zTab h 21 9 3 (zt21_9 h) := zTab.mk (ret := (some .boolean)) (bl := xk21_9) (by decide +kernel) (by decide +kernel) rfl rfl
def zt21_10 (h : Nat) : ZB := [(0, [zf_ald 0, zf_getR 21 12, zf_nnl 13, zf_ald 0, zf_ic 3, zf_inv h 21 47 1, zf_reti], 13),
  (13, [zf_ald 0, zf_getI 21 29, zf_ic 10, zf_ic2 .ne 28, zf_ald 0, zf_ic 1, zf_inv h 21 47 1, zf_reti], 28),
  (28, [zf_ald 0, zf_ic 0, zf_inv h 21 24 1, zf_ald 0, zf_getI 21 42, zf_ic 60, zf_ic2 .le 48, zf_ald 0, zf_ic 1, zf_inv h 21 47 1, zf_reti], 48),
  (48, [zf_ald 0, zf_dup, zf_getI 21 29, zf_ic 1, zf_add, zf_putI 21 29, zf_ald 0, zf_ald 0, zf_getI 21 14, zf_putI 21 30, zf_ald 0, zf_new 15 19, zf_dup, zf_ald 0, zf_getR 21 12, zf_getI 17 3, zf_ins h 15 7 1, zf_putR 21 31, zf_ald 0, zf_new 14 25, zf_dup, zf_ald 0, zf_getR 21 12, zf_getI 17 3, zf_ins h 14 9 1, zf_putR 21 32, zf_ald 0, zf_new 16 39, zf_dup, zf_ins h 16 9 0, zf_putR 21 43, zf_ald 0, zf_getR 21 43, zf_lc 300, zf_ic 1, zf_inv h 16 29 2, zf_ist 1, zf_ald 0, zf_ic 0, zf_putI 21 35, zf_ald 0, zf_ic 1, zf_inv h 21 24 1, zf_ic 0, zf_ist 2], 137),
  (137, [zf_ild 2, zf_ald 0, zf_getI 21 35, zf_ic2 .ge 166, zf_ald 0, zf_getR 21 39, zf_ild 2, zf_ald 0, zf_getR 21 43, zf_ic 0, zf_ild 2, zf_inv h 16 18 2, zf_astI, zf_inc 2 1, zf_go 137], 166),
  (166, [zf_ic 0, zf_ist 2], 168),
  (168, [zf_ild 2, zf_ald 0, zf_getI 21 24, zf_ic2 .ge 236, zf_ald 0, zf_getR 21 32, zf_ald 0, zf_getR 21 25, zf_ild 2, zf_aldI 100, zf_ic 3, zf_ic2 .ge 199, zf_ald 0, zf_getR 21 25, zf_ild 2, zf_aldI 100, zf_go 207], 199),
  (199, [zf_ald 0, zf_getR 21 25, zf_ild 2, zf_aldI 100, zf_ic 1, zf_add], 207),
  (207, [zf_ald 0, zf_getR 21 26, zf_ild 2, zf_aldI 100, zf_ald 0, zf_getR 21 27, zf_ild 2, zf_aldI 100, zf_ald 0, zf_getR 21 28, zf_ild 2, zf_aldI 100, zf_i2l, zf_inv h 14 29 4, zf_ist 1, zf_inc 2 1, zf_go 168], 236),
  (236, [zf_ald 0, zf_ald 0, zf_getR 21 32, zf_ic 1, zf_lc 0, zf_inv h 14 31 2, zf_putI 21 33, zf_ald 0, zf_ald 0, zf_getR 21 12, zf_ic 0, zf_inv h 17 22 1, zf_ic (-1), zf_ic2 .ne 283, zf_ald 0, zf_getR 21 31, zf_inv h 15 24 0, zf_if .ne 283, zf_ald 0, zf_getI 21 33, zf_if .ne 283, zf_ic 1, zf_go 284], 283),
  (283, [zf_ic 0], 284),
  (284, [zf_putZ 21 34, zf_ic 0, zf_ist 2], 289),
  (289, [zf_ild 2, zf_ald 0, zf_getI 21 22, zf_ic2 .ge 330, zf_ald 0, zf_ald 0, zf_getI 21 34, zf_if .eq 320, zf_ald 0, zf_getR 21 31, zf_ild 2, zf_inv h 15 19 1, zf_if .ne 320, zf_ic 1, zf_go 321], 320),
  (320, [zf_ic 0], 321),
  (321, [zf_putZ 21 34, zf_inc 2 1, zf_go 289], 330),
  (330, [zf_ald 0, zf_ald 0, zf_getI 21 42, zf_inv h 21 12 1, zf_reti], 339)]
theorem zT21_10 (h : Nat) : zTab h 21 10 3 (zt21_10 h) := zTab.mk (ret := (some .int)) (bl := xk21_10) (by decide +kernel) (by decide +kernel) rfl rfl
def zt21_11 (h : Nat) : ZB := [(0, [zf_ald 0, zf_getR 21 47, zf_ild 1, zf_inv h 12 2 1, zf_reti], 9)]
theorem zT21_11 (h : Nat) : zTab h 21 11 2 (zt21_11 h) := zTab.mk (ret := (some .int)) (bl := xk21_11) (by decide +kernel) (by decide +kernel) rfl rfl
def zt21_12 (h : Nat) : ZB := [(0, [zf_ald 0, zf_ic 0, zf_putI 21 0, zf_ild 1, zf_reti], 7)]
theorem zT21_12 (h : Nat) : zTab h 21 12 2 (zt21_12 h) := zTab.mk (ret := (some .int)) (bl := xk21_12) (by decide +kernel) (by decide +kernel) rfl rfl
def zt21_13 (h : Nat) : ZB := [(0, [zf_ald 0, zf_ic 0, zf_putI 21 11, zf_ic 0, zf_ist 2], 7),
  (7, [zf_ild 2, zf_ald 1, zf_getI 20 4, zf_ic2 .ge 28, zf_ald 0, zf_getR 21 8, zf_ild 2, zf_ic (-1), zf_astI, zf_inc 2 1, zf_go 7], 28),
  (28, [zf_ic 0, zf_ist 2], 30),
  (30, [zf_ild 2, zf_ald 1, zf_getI 20 4, zf_ic2 .ge 185, zf_ald 1, zf_ild 2, zf_inv h 20 20 1, zf_ic 1, zf_ic2 .ne 179, zf_ald 0, zf_getI 21 11, zf_ic 16, zf_ic2 .ne 59, zf_go 179], 59),
  (59, [zf_ald 1, zf_ild 2, zf_inv h 20 29 1, zf_ist 3, zf_ald 1, zf_ild 3, zf_inv h 20 20 1, zf_ic 1, zf_ic2 .ne 78, zf_ic 1, zf_go 79], 78),
  (78, [zf_ic 0], 79),
  (79, [zf_ist 4, zf_ild 4, zf_if .eq 99, zf_ald 0, zf_getR 21 8, zf_ild 3, zf_aldI 100, zf_ic (-1), zf_ic2 .ne 99, zf_go 179], 99),
  (99, [zf_ald 0, zf_getR 21 10, zf_ald 0, zf_getI 21 11, zf_ild 4, zf_if .eq 121, zf_ald 0, zf_getR 21 8, zf_ild 3, zf_aldI 100, zf_go 122], 121),
  (121, [zf_ic (-1)], 122),
  (122, [zf_astI, zf_ald 0, zf_getR 21 9, zf_ald 0, zf_getI 21 11, zf_ald 0, zf_ald 1, zf_ild 2, zf_inv h 21 52 2, zf_astI, zf_ald 0, zf_getR 21 8, zf_ild 2, zf_ald 0, zf_getR 21 7, zf_ald 0, zf_getR 21 10, zf_ald 0, zf_getI 21 11, zf_aldI 100, zf_ald 0, zf_getR 21 9, zf_ald 0, zf_getI 21 11, zf_aldI 100, zf_inv h 18 32 2, zf_astI, zf_ald 0, zf_dup, zf_getI 21 11, zf_ic 1, zf_add, zf_putI 21 11], 179),
  (179, [zf_inc 2 1, zf_go 30], 185),
  (185, [zf_ic 1, zf_ist 2], 187),
  (187, [zf_ild 2, zf_ald 1, zf_getI 20 4, zf_ic2 .ge 280, zf_ald 1, zf_ild 2, zf_inv h 20 29 1, zf_ist 3, zf_ald 1, zf_ild 2, zf_inv h 20 20 1, zf_ist 4, zf_ild 4, zf_ic 7, zf_ic2 .ne 235, zf_ald 0, zf_ild 3, zf_inv h 21 31 1, zf_if .eq 235, zf_ald 0, zf_ald 1, zf_ild 2, zf_ald 0, zf_getR 21 8, zf_ild 3, zf_aldI 100, zf_inv h 21 78 3], 235),
  (235, [zf_ild 4, zf_ic 6, zf_ic2 .ne 262, zf_ald 0, zf_ild 3, zf_inv h 21 31 1, zf_if .eq 262, zf_ald 0, zf_ald 1, zf_ild 2, zf_ald 0, zf_getR 21 8, zf_ild 3, zf_aldI 100, zf_inv h 21 40 3], 262),
  (262, [zf_ild 4, zf_ic 4, zf_ic2 .ne 274, zf_ald 0, zf_ald 1, zf_ild 2, zf_inv h 21 73 2], 274),
  (274, [zf_inc 2 1, zf_go 187], 280),
  (280, [zf_ret], 281)]
theorem zT21_13 (h : Nat) : zTab h 21 13 5 (zt21_13 h) := zTab.mk (ret := none) (bl := xk21_13) (by decide +kernel) (by decide +kernel) rfl rfl
def zt21_14 (h : Nat) : ZB := [(0, [zf_ald 0, zf_getR 21 31, zf_nul 21, zf_ild 1, zf_if .lt 21, zf_ild 1, zf_ic 6, zf_ic2 .gt 21, zf_ild 2, zf_if .ge 23], 21),
  (21, [zf_ic (-1), zf_reti], 23),
  (23, [zf_ald 0, zf_ild 2, zf_putI 21 44, zf_ald 0, zf_ic (-1), zf_putI 21 46, zf_ald 0, zf_ild 1, zf_inv h 21 65 1, zf_ald 0, zf_getI 21 46, zf_reti], 43)]
theorem zT21_14 (h : Nat) : zTab h 21 14 3 (zt21_14 h) := zTab.mk (ret := (some .int)) (bl := xk21_14) (by decide +kernel) (by decide +kernel) rfl rfl
def zt21_15 (h : Nat) : ZB := [(0, [zf_ald 0, zf_ald 0, zf_getR 21 48, zf_getI 13 2, zf_if .eq 15, zf_ic 3, zf_go 16], 15),
  (15, [zf_ic 0], 16),
  (16, [zf_inv h 21 48 1, zf_if .eq 24, zf_ic 0, zf_retz], 24),
  (24, [zf_ald 0, zf_getR 21 48, zf_inv h 13 17 0, zf_ald 0, zf_ald 0, zf_getR 21 48, zf_ild 1, zf_inv h 13 9 1, zf_if .ne 47, zf_ic 2, zf_go 64], 47),
  (47, [zf_ald 0, zf_getR 21 48, zf_getR 13 18, zf_ild 1, zf_aldB, zf_if .eq 63, zf_ic 4, zf_go 64], 63),
  (63, [zf_ic 0], 64),
  (64, [zf_inv h 21 48 1, zf_if .eq 72, zf_ic 0, zf_retz], 72),
  (72, [zf_ald 0, zf_ald 0, zf_getR 21 48, zf_ild 1, zf_inv h 13 4 1, zf_if .eq 88, zf_ic 0, zf_go 89], 88),
  (88, [zf_ic 1], 89),
  (89, [zf_inv h 21 48 1, zf_if .ne 99, zf_ic 1, zf_go 100], 99),
  (99, [zf_ic 0], 100),
  (100, [zf_retz], 101)]
theorem zT21_15 (h : Nat) : zTab h 21 15 2 (zt21_15 h) := zTab.mk (ret := (some .boolean)) (bl := xk21_15) (by decide +kernel) (by decide +kernel) rfl rfl
def zt21_16 (h : Nat) : ZB := [(0, [zf_ald 0, zf_ild 1, zf_if .lt 13, zf_ild 1, zf_ald 0, zf_getI 21 2, zf_ic2 .le 17], 13),
  (13, [zf_ic 2, zf_go 18], 17),
  (17, [zf_ic 0], 18),
  (18, [zf_inv h 21 48 1, zf_if .eq 26, zf_ic 0, zf_retz], 26),
  (26, [zf_ald 0, zf_ild 1, zf_putI 21 2, zf_ic 1, zf_retz], 33)]
theorem zT21_16 (h : Nat) : zTab h 21 16 2 (zt21_16 h) := zTab.mk (ret := (some .boolean)) (bl := xk21_16) (by decide +kernel) (by decide +kernel) rfl rfl
def zt21_17 (h : Nat) : ZB := [(0, [zf_ald 0, zf_getR 21 47, zf_ild 1, zf_inv h 12 15 1, zf_ist 2, zf_ald 0, zf_getR 21 47, zf_inv h 12 53 0, zf_if .ne 23, zf_ild 2, zf_go 24], 23),
  (23, [zf_ic (-1)], 24),
  (24, [zf_reti], 25)]
theorem zT21_17 (h : Nat) : zTab h 21 17 3 (zt21_17 h) := zTab.mk (ret := (some .int)) (bl := xk21_17) (by decide +kernel) (by decide +kernel) rfl rfl
def zt21_18 (h : Nat) : ZB := [(0, [zf_ald 0, zf_getR 21 31, zf_nul 18, zf_ald 0, zf_getI 21 34, zf_if .eq 18, zf_ic 1, zf_go 19], 18),
  (18, [zf_ic 0], 19),
  (19, [zf_retz], 20)]
theorem zT21_18 (h : Nat) : zTab h 21 18 1 (zt21_18 h) := zTab.mk (ret := (some .boolean)) (bl := xk21_18) (by decide +kernel) (by decide +kernel) rfl rfl
def zt21_19 (h : Nat) : ZB := [(0, [zf_ild 1, zf_ald 0, zf_getI 21 22, zf_ic2 .lt 12, zf_lc (-1), zf_retl], 12),
  (12, [zf_ild 2, zf_sw 100 0 4 [48, 56, 63, 81, 90]], 48),
  (48, [zf_ald 0, zf_getR 21 23, zf_ild 1, zf_aldI 100, zf_i2l, zf_retl], 56),
  (56, [zf_ald 0, zf_ild 1, zf_inv h 21 43 1, zf_i2l, zf_retl], 63),
  (63, [zf_ald 0, zf_getR 21 12, zf_getR 17 15, zf_ild 1, zf_aldB, zf_if .eq 79, zf_lc 1, zf_go 80], 79),
  (79, [zf_lc 0], 80),
  (80, [zf_retl], 81),
  (81, [zf_ald 0, zf_getR 21 12, zf_ild 1, zf_inv h 17 7 1, zf_retl], 90),
  (90, [zf_ald 0, zf_getR 21 12, zf_ild 1, zf_inv h 17 27 1, zf_i2l, zf_retl], 100),
  (100, [zf_ald 0, zf_getR 21 31, zf_nul 130, zf_ald 0, zf_getI 21 30, zf_ald 0, zf_getI 21 14, zf_ic2 .ne 130, zf_ald 0, zf_getR 21 31, zf_ild 1, zf_inv h 15 19 1, zf_i2l, zf_go 133], 130),
  (130, [zf_lc (-1)], 133),
  (133, [zf_retl], 134)]
theorem zT21_19 (h : Nat) : zTab h 21 19 3 (zt21_19 h) := zTab.mk (ret := (some .long)) (bl := xk21_19) (by decide +kernel) (by decide +kernel) rfl rfl
def zt21_20 (h : Nat) : ZB := [(0, [zf_ald 0, zf_ald 0, zf_getR 21 12, zf_nnl 12, zf_ic 3, zf_go 13], 12),
  (12, [zf_ic 0], 13),
  (13, [zf_inv h 21 48 1, zf_if .eq 21, zf_ic 0, zf_retz], 21),
  (21, [zf_ald 0, zf_getR 21 47, zf_ic 0, zf_putI 12 28, zf_ic 0, zf_ist 1], 31),
  (31, [zf_ild 1, zf_ic 12, zf_ic2 .ge 88, zf_ald 0, zf_getR 21 47, zf_ic 0, zf_inv h 12 32 1, zf_ist 2, zf_ic 0, zf_ist 3, zf_ic 0, zf_ist 4], 51),
  (51, [zf_ild 4, zf_ic 6, zf_ic2 .ge 82, zf_ald 0, zf_getR 21 47, zf_ild 2, zf_ild 4, zf_ald 0, zf_ild 1, zf_ild 4, zf_inv h 21 19 2, zf_inv h 12 17 3, zf_ist 3, zf_inc 4 1, zf_go 51], 82),
  (82, [zf_inc 1 1, zf_go 31], 88),
  (88, [zf_ic 1, zf_retz], 90)]
theorem zT21_20 (h : Nat) : zTab h 21 20 5 (zt21_20 h) := zTab.mk (ret := (some .boolean)) (bl := xk21_20) (by decide +kernel) (by decide +kernel) rfl rfl
def zt21_21 (h : Nat) : ZB := [(0, [zf_ald 0, zf_ald 0, zf_getI 21 2, zf_ic 20, zf_add, zf_ic 4000, zf_ic2 .le 18, zf_ic 1, zf_go 19], 18),
  (18, [zf_ic 0], 19),
  (19, [zf_inv h 21 48 1, zf_if .eq 27, zf_ic 0, zf_retz], 27),
  (27, [zf_ald 0, zf_ild 1, zf_inv h 21 34 1, zf_ald 0, zf_ild 2, zf_inv h 21 34 1, zf_ald 0, zf_ild 3, zf_inv h 21 34 1, zf_ald 0, zf_ild 4, zf_inv h 21 34 1, zf_ald 0, zf_ild 5, zf_inv h 21 34 1, zf_ic 1, zf_retz], 56)]
theorem zT21_21 (h : Nat) : zTab h 21 21 6 (zt21_21 h) := zTab.mk (ret := (some .boolean)) (bl := xk21_21) (by decide +kernel) (by decide +kernel) rfl rfl
def zt21_22 (h : Nat) : ZB := [(0, [zf_ald 0, zf_getR 21 48, zf_ic 0, zf_putI 13 3, zf_ic 0, zf_ist 2], 10),
  (10, [zf_ild 2, zf_ald 0, zf_getI 21 15, zf_ic2 .ge 150, zf_ald 0, zf_getR 21 21, zf_ild 2, zf_aldI 100, zf_ild 1, zf_ic2 .eq 31, zf_go 144], 31),
  (31, [zf_ald 0, zf_getR 21 48, zf_getR 13 4, zf_ald 0, zf_getR 21 48, zf_getI 13 3, zf_ald 0, zf_getR 21 16, zf_ild 2, zf_aldI 100, zf_astI, zf_ald 0, zf_getR 21 48, zf_getR 13 4, zf_ald 0, zf_getR 21 48, zf_getI 13 3, zf_ic 1, zf_add, zf_ald 0, zf_getR 21 17, zf_ild 2, zf_aldI 100, zf_astI, zf_ald 0, zf_getR 21 48, zf_getR 13 4, zf_ald 0, zf_getR 21 48, zf_getI 13 3, zf_ic 2, zf_add, zf_ald 0, zf_getR 21 18, zf_ild 2, zf_aldI 100, zf_astI, zf_ald 0, zf_getR 21 48, zf_getR 13 4, zf_ald 0, zf_getR 21 48, zf_getI 13 3, zf_ic 3, zf_add, zf_ic 16, zf_ald 0, zf_getR 21 20, zf_ild 2, zf_aldI 100, zf_mul, zf_ald 0, zf_getR 21 19, zf_ild 2, zf_aldI 100, zf_add, zf_astI, zf_ald 0, zf_getR 21 48, zf_dup, zf_getI 13 3, zf_ic 4, zf_add, zf_putI 13 3], 144),
  (144, [zf_inc 2 1, zf_go 10], 150),
  (150, [zf_ret], 151)]
theorem zT21_22 (h : Nat) : zTab h 21 22 3 (zt21_22 h) := zTab.mk (ret := none) (bl := xk21_22) (by decide +kernel) (by decide +kernel) rfl rfl
def zt21_23 (h : Nat) : ZB := [(0, [zf_ic 0, zf_ist 2], 2),
  (2, [zf_ild 2, zf_ald 0, zf_getI 20 4, zf_ic2 .ge 81, zf_ald 0, zf_ild 2, zf_inv h 20 20 1, zf_ic 8, zf_ic2 .ne 43, zf_ald 0, zf_ild 2, zf_inv h 20 29 1, zf_ild 1, zf_ic2 .ne 43, zf_ald 0, zf_ild 2, zf_ic 0, zf_inst h 21 35 3, zf_ic 2, zf_ic2 .ne 43, zf_ic 1, zf_go 44], 43),
  (43, [zf_ic 0], 44),
  (44, [zf_ist 3, zf_ild 3, zf_if .eq 75, zf_ald 0, zf_ild 2, zf_ic 0, zf_ic 0, zf_inv h 20 50 3, zf_ic 111, zf_ic2 .ne 75, zf_ald 0, zf_ild 2, zf_ic 0, zf_ic 1, zf_inv h 20 50 3, zf_ic 102, zf_ic2 .ne 75, zf_ild 2, zf_reti], 75),
  (75, [zf_inc 2 1, zf_go 2], 81),
  (81, [zf_ic (-1), zf_reti], 83)]
theorem zT21_23 (h : Nat) : zTab h 21 23 4 (zt21_23 h) := zTab.mk (ret := (some .int)) (bl := xk21_23) (by decide +kernel) (by decide +kernel) rfl rfl
def zt21_24 (h : Nat) : ZB := [(0, [zf_ald 0, zf_ild 1, zf_putZ 21 41, zf_ald 0, zf_ic 0, zf_putI 21 42, zf_ic 0, zf_ist 2], 12),
  (12, [zf_ild 2, zf_ald 0, zf_getI 21 15, zf_ic2 .ge 137, zf_ald 0, zf_ald 0, zf_getR 21 21, zf_ild 2, zf_aldI 100, zf_ald 0, zf_getR 21 18, zf_ild 2, zf_aldI 100, zf_ic 1, zf_ic 1, zf_ald 0, zf_getR 21 19, zf_ild 2, zf_aldI 100, zf_ald 0, zf_getR 21 20, zf_ild 2, zf_aldI 100, zf_ald 0, zf_getR 21 19, zf_ild 2, zf_aldI 100, zf_ald 0, zf_getR 21 20, zf_ild 2, zf_aldI 100, zf_ic 300, zf_inv h 21 69 9, zf_ald 0, zf_getI 21 41, zf_if .ne 75, zf_go 131], 75),
  (75, [zf_ald 0, zf_getR 21 31, zf_ild 2, zf_ald 0, zf_getR 21 18, zf_ild 2, zf_aldI 100, zf_lc 1000, zf_ald 0, zf_getR 21 19, zf_ild 2, zf_aldI 100, zf_i2l, zf_lmul, zf_lc 1000, zf_ald 0, zf_getR 21 20, zf_ild 2, zf_aldI 100, zf_i2l, zf_lmul, zf_lc 300, zf_inv h 15 20 5, zf_ist 3, zf_ald 0, zf_getR 21 31, zf_ild 2, zf_ald 0, zf_getR 21 21, zf_ild 2, zf_aldI 100, zf_inv h 15 22 2, zf_ist 4], 131),
  (131, [zf_inc 2 1, zf_go 12], 137),
  (137, [zf_ic 0, zf_ist 2], 139),
  (139, [zf_ild 2, zf_ald 0, zf_getI 21 22, zf_ic2 .ge 247, zf_ald 0, zf_getR 21 12, zf_getR 17 15, zf_ild 2, zf_aldB, zf_if .ne 162, zf_go 241], 162),
  (162, [zf_ic 0, zf_ist 3], 164),
  (164, [zf_ild 3, zf_ald 0, zf_getR 21 12, zf_getI 17 3, zf_ic2 .ge 188, zf_ald 0, zf_ild 2, zf_ild 3, zf_ic 1, zf_inv h 21 60 3, zf_inc 3 1, zf_go 164], 188),
  (188, [zf_ic 0, zf_ist 3], 190),
  (190, [zf_ild 3, zf_ald 0, zf_getR 21 12, zf_getI 17 3, zf_ic2 .ge 214, zf_ald 0, zf_ild 2, zf_ild 3, zf_ic 0, zf_inv h 21 60 3, zf_inc 3 1, zf_go 190], 214),
  (214, [zf_ic 0, zf_ist 3], 216),
  (216, [zf_ild 3, zf_ic 1, zf_add, zf_ald 0, zf_getR 21 12, zf_getI 17 3, zf_ic2 .ge 241, zf_ald 0, zf_ild 2, zf_ild 3, zf_inv h 21 29 2, zf_inc 3 1, zf_go 216], 241),
  (241, [zf_inc 2 1, zf_go 139], 247),
  (247, [zf_ret], 248)]
theorem zT21_24 (h : Nat) : zTab h 21 24 5 (zt21_24 h) := zTab.mk (ret := none) (bl := xk21_24) (by decide +kernel) (by decide +kernel) rfl rfl
def zt21_25 (h : Nat) : ZB := [(0, [zf_ic 0, zf_ist 3, zf_ic 0, zf_ist 4], 5),
  (5, [zf_ild 4, zf_ald 0, zf_getI 21 15, zf_ic2 .ge 52, zf_ild 3, zf_if .ne 40, zf_ald 0, zf_getR 21 16, zf_ild 4, zf_aldI 100, zf_ild 1, zf_ic2 .ne 44, zf_ald 0, zf_getR 21 17, zf_ild 4, zf_aldI 100, zf_ild 2, zf_ic2 .ne 44], 40),
  (40, [zf_ic 1, zf_go 45], 44),
  (44, [zf_ic 0], 45),
  (45, [zf_ist 3, zf_inc 4 1, zf_go 5], 52),
  (52, [zf_ild 3, zf_retz], 54)]
theorem zT21_25 (h : Nat) : zTab h 21 25 5 (zt21_25 h) := zTab.mk (ret := (some .boolean)) (bl := xk21_25) (by decide +kernel) (by decide +kernel) rfl rfl
def zt21_26 (h : Nat) : ZB := [(0, [zf_ald 0, zf_getR 21 48, zf_inv h 13 17 0, zf_ald 0, zf_getR 21 48, zf_getI 13 11, zf_ist 1, zf_ald 0, zf_getR 21 48, zf_getR 13 16, zf_ald 0, zf_getR 21 48, zf_getI 13 15, zf_aldI 100, zf_ist 2, zf_ald 0, zf_getR 21 48, zf_getI 13 5, zf_ic 1, zf_add, zf_ist 3, zf_ic 0, zf_ist 4], 44),
  (44, [zf_ild 4, zf_ald 0, zf_getI 21 22, zf_ic2 .ge 162, zf_ald 0, zf_ild 4, zf_inv h 21 22 1, zf_ald 0, zf_getR 21 48, zf_getI 13 3, zf_if .ne 72, zf_go 156], 72),
  (72, [zf_ic 0, zf_ist 5], 75),
  (75, [zf_ild 5, zf_ald 0, zf_getR 21 48, zf_getI 13 11, zf_ic2 .ge 105, zf_ald 0, zf_getR 21 48, zf_ild 5, zf_inv h 13 6 1, zf_if .ne 105, zf_inc 5 1, zf_go 75], 105),
  (105, [zf_ild 1, zf_ild 5, zf_ald 0, zf_getR 21 48, zf_getI 13 11, zf_ic2 .ge 122, zf_ic 0, zf_go 123], 122),
  (122, [zf_ic 1], 123),
  (123, [zf_add, zf_ist 1, zf_ild 3, zf_ild 5, zf_ald 0, zf_getR 21 48, zf_getI 13 11, zf_ic2 .ge 142, zf_ic 2, zf_go 151], 142),
  (142, [zf_ic 2, zf_ald 0, zf_getR 21 48, zf_getI 13 3, zf_add], 151),
  (151, [zf_add, zf_ist 3, zf_inc 2 1], 156),
  (156, [zf_inc 4 1, zf_go 44], 162),
  (162, [zf_ald 0, zf_getR 21 48, zf_ic 0, zf_putI 13 3, zf_ild 2, zf_ic 8, zf_ic2 .gt 205, zf_ild 1, zf_ic 24, zf_ic2 .gt 205, zf_ald 0, zf_getR 21 48, zf_getI 13 15, zf_ic 12, zf_ic2 .ge 205, zf_ild 3, zf_ic 400, zf_ic2 .gt 205, zf_ic 1, zf_go 206], 205),
  (205, [zf_ic 0], 206),
  (206, [zf_retz], 207)]
theorem zT21_26 (h : Nat) : zTab h 21 26 6 (zt21_26 h) := zTab.mk (ret := (some .boolean)) (bl := xk21_26) (by decide +kernel) (by decide +kernel) rfl rfl
def zt21_27 (h : Nat) : ZB := [(0, [zf_ald 0, zf_getR 21 12, zf_ild 2, zf_ild 3, zf_ild 4, zf_inv h 17 4 3, zf_ist 5, zf_ild 5, zf_ic (-1), zf_ic2 .eq 37, zf_ald 0, zf_getR 21 12, zf_getR 17 8, zf_ild 5, zf_aldI 100, zf_ild 1, zf_ic2 .ne 37, zf_ic 1, zf_go 38], 37),
  (37, [zf_ic 0], 38),
  (38, [zf_retz], 39)]
theorem zT21_27 (h : Nat) : zTab h 21 27 6 (zt21_27 h) := zTab.mk (ret := (some .boolean)) (bl := xk21_27) (by decide +kernel) (by decide +kernel) rfl rfl
def zt21_28 (h : Nat) : ZB := [(0, [zf_ald 0, zf_ild 1, zf_ild 2, zf_ic 1, zf_ic 2, zf_ild 3, zf_ild 4, zf_ild 3, zf_ild 4, zf_ic 250, zf_inv h 21 69 9, zf_ald 0, zf_ild 1, zf_ild 2, zf_ic 1, zf_add, zf_ic 1, zf_ic 2, zf_ild 3, zf_ild 4, zf_ild 3, zf_ild 4, zf_ic 250, zf_inv h 21 69 9, zf_ald 0, zf_ild 1, zf_ild 2, zf_ic 2, zf_ic 3, zf_ild 3, zf_ild 4, zf_ild 3, zf_ild 4, zf_ic 150, zf_inv h 21 69 9, zf_ald 0, zf_getI 21 41, zf_if .ne 61, zf_ret], 61),
  (61, [zf_ald 0, zf_getR 21 31, zf_ild 2, zf_ild 2, zf_ic 1, zf_add, zf_lc 1000, zf_ild 3, zf_i2l, zf_lmul, zf_lc 1000, zf_ild 4, zf_i2l, zf_lmul, zf_lc 150, zf_inv h 15 27 5, zf_ist 5, zf_ald 0, zf_getR 21 43, zf_ic 0, zf_lc 1000, zf_ild 3, zf_i2l, zf_lmul, zf_lc 1000, zf_ild 4, zf_i2l, zf_lmul, zf_ild 2, zf_ild 2, zf_ic 1, zf_add, zf_inv h 16 8 5, zf_ist 5, zf_ald 0, zf_getR 21 36, zf_ald 0, zf_getI 21 35, zf_ild 2, zf_astI, zf_ald 0, zf_getR 21 37, zf_ald 0, zf_getI 21 35, zf_ild 3, zf_astI, zf_ald 0, zf_getR 21 38, zf_ald 0, zf_getI 21 35, zf_ild 4, zf_astI, zf_ald 0, zf_dup, zf_getI 21 35, zf_ic 1, zf_add, zf_putI 21 35, zf_ret], 159)]
theorem zT21_28 (h : Nat) : zTab h 21 28 6 (zt21_28 h) := zTab.mk (ret := none) (bl := xk21_28) (by decide +kernel) (by decide +kernel) rfl rfl
def zt21_29 (h : Nat) : ZB := [(0, [zf_ic 0, zf_ist 3], 2),
  (2, [zf_ild 3, zf_ald 0, zf_getR 21 12, zf_getI 17 2, zf_ic2 .ge 75, zf_ic 0, zf_ist 4], 16),
  (16, [zf_ild 4, zf_ald 0, zf_getR 21 12, zf_getI 17 1, zf_ic2 .ge 69, zf_ald 0, zf_ild 1, zf_ild 2, zf_ild 4, zf_ild 3, zf_inv h 21 27 4, zf_if .eq 63, zf_ald 0, zf_ild 1, zf_ild 2, zf_ic 1, zf_add, zf_ild 4, zf_ild 3, zf_inv h 21 27 4, zf_if .eq 63, zf_ald 0, zf_ild 1, zf_ild 2, zf_ild 4, zf_ild 3, zf_inv h 21 28 4], 63),
  (63, [zf_inc 4 1, zf_go 16], 69),
  (69, [zf_inc 3 1, zf_go 2], 75),
  (75, [zf_ret], 76)]
theorem zT21_29 (h : Nat) : zTab h 21 29 5 (zt21_29 h) := zTab.mk (ret := none) (bl := xk21_29) (by decide +kernel) (by decide +kernel) rfl rfl
def zt21_31 (h : Nat) : ZB := [(0, [zf_ald 0, zf_getR 21 8, zf_ild 1, zf_aldI 100, zf_ic (-1), zf_ic2 .eq 29, zf_ald 0, zf_getR 21 9, zf_ald 0, zf_getR 21 8, zf_ild 1, zf_aldI 100, zf_aldI 100, zf_ic (-1), zf_ic2 .ne 29, zf_ic 1, zf_go 30], 29),
  (29, [zf_ic 0], 30),
  (30, [zf_retz], 31)]
theorem zT21_31 (h : Nat) : zTab h 21 31 2 (zt21_31 h) := zTab.mk (ret := (some .boolean)) (bl := xk21_31) (by decide +kernel) (by decide +kernel) rfl rfl
def zt21_32 (h : Nat) : ZB := [(0, [zf_ald 0, zf_inv h 21 18 0, zf_ist 1, zf_ic 0, zf_ist 2], 7),
  (7, [zf_ild 2, zf_ic 8, zf_ic2 .ge 53, zf_ild 1, zf_if .eq 45, zf_ald 0, zf_getR 21 47, zf_ild 2, zf_inv h 12 2 1, zf_ic (-1), zf_ic2 .eq 41, zf_ald 0, zf_getR 21 47, zf_ild 2, zf_inv h 12 2 1, zf_ic 1, zf_ic2 .ne 45], 41),
  (41, [zf_ic 1, zf_go 46], 45),
  (45, [zf_ic 0], 46),
  (46, [zf_ist 1, zf_inc 2 1, zf_go 7], 53),
  (53, [zf_ild 1, zf_retz], 55)]
theorem zT21_32 (h : Nat) : zTab h 21 32 3 (zt21_32 h) := zTab.mk (ret := (some .boolean)) (bl := xk21_32) (by decide +kernel) (by decide +kernel) rfl rfl
def zt21_33 (h : Nat) : ZB := [(0, [zf_ald 0, zf_getI 21 4, zf_ic (-1), zf_ic2 .ne 10, zf_ic (-1), zf_reti], 10),
  (10, [zf_ald 0, zf_getR 21 3, zf_ald 0, zf_getI 21 4, zf_aldR, zf_ild 1, zf_inv h 20 20 1, zf_ist 2, zf_ald 0, zf_getR 21 3, zf_ald 0, zf_getI 21 4, zf_aldR, zf_inv h 20 51 0, zf_if .ne 43, zf_ild 2, zf_go 44], 43),
  (43, [zf_ic (-1)], 44),
  (44, [zf_reti], 45)]
theorem zT21_33 (h : Nat) : zTab h 21 33 3 (zt21_33 h) := zTab.mk (ret := (some .int)) (bl := xk21_33) (by decide +kernel) (by decide +kernel) rfl rfl
def zt21_34 (h : Nat) : ZB := [(0, [zf_ic 24, zf_ist 2], 3),
  (3, [zf_ild 2, zf_if .lt 39, zf_ald 0, zf_getR 21 1, zf_ald 0, zf_getI 21 2, zf_ild 1, zf_ild 2, zf_bit zshr, zf_ic 255, zf_bit zand, zf_astI, zf_ald 0, zf_dup, zf_getI 21 2, zf_ic 1, zf_add, zf_putI 21 2, zf_inc 2 (-8), zf_go 3], 39),
  (39, [zf_ret], 40)]
theorem zT21_34 (h : Nat) : zTab h 21 34 3 (zt21_34 h) := zTab.mk (ret := none) (bl := xk21_34) (by decide +kernel) (by decide +kernel) rfl rfl
def zt21_35 (h : Nat) : ZB := [(0, [zf_ald 0, zf_ild 1, zf_ild 2, zf_ic (-1), zf_inv h 20 50 3, zf_reti], 8)]
theorem zT21_35 (h : Nat) : zTab h 21 35 3 (zt21_35 h) := zTab.mk (ret := (some .int)) (bl := xk21_35) (by decide +kernel) (by decide +kernel) rfl rfl
def zt21_36 (h : Nat) : ZB := [(0, [zf_ald 0, zf_getR 21 12, zf_nul 17, zf_ald 0, zf_getR 21 48, zf_getI 13 2, zf_if .eq 23], 17),
  (17, [zf_ald 0, zf_ic 3, zf_inv h 21 47 1, zf_reti], 23),
  (23, [zf_ald 0, zf_getR 21 48, zf_inv h 13 17 0, zf_ald 0, zf_getR 21 48, zf_ild 1, zf_inv h 13 9 1, zf_if .ne 47, zf_ald 0, zf_ic 2, zf_inv h 21 47 1, zf_reti], 47),
  (47, [zf_ic 0, zf_ist 2, zf_ic 0, zf_ist 3], 51),
  (51, [zf_ald 0, zf_ild 1, zf_ild 3, zf_inv h 21 63 2, zf_ic (-1), zf_ic2 .eq 125, zf_ald 0, zf_ild 1, zf_ild 3, zf_ic 3, zf_add, zf_inv h 21 63 2, zf_ist 4, zf_ild 2, zf_ald 0, zf_ald 0, zf_ild 1, zf_ild 3, zf_inv h 21 63 2, zf_ald 0, zf_ild 1, zf_ild 3, zf_ic 1, zf_add, zf_inv h 21 63 2, zf_ald 0, zf_ild 1, zf_ild 3, zf_ic 2, zf_add, zf_inv h 21 63 2, zf_ild 4, zf_ic 16, zf_rem, zf_ild 4, zf_ic 16, zf_div, zf_inv h 21 46 5, zf_ic (-1), zf_ic2 .ne 116, zf_ic 0, zf_go 117], 116),
  (116, [zf_ic 1], 117),
  (117, [zf_add, zf_ist 2, zf_inc 3 4, zf_go 51], 125),
  (125, [zf_ald 0, zf_ild 2, zf_inv h 21 12 1, zf_reti], 131)]
theorem zT21_36 (h : Nat) : zTab h 21 36 5 (zt21_36 h) := zTab.mk (ret := (some .int)) (bl := xk21_36) (by decide +kernel) (by decide +kernel) rfl rfl
def zt21_37 (h : Nat) : ZB := [(0, [zf_ald 0, zf_getR 21 7, zf_nnl 11, zf_ic (-1000), zf_reti], 11),
  (11, [zf_ald 0, zf_getR 21 7, zf_ild 1, zf_inv h 18 23 1, zf_ist 2, zf_ald 0, zf_getR 21 7, zf_inv h 18 33 0, zf_if .ne 34, zf_ild 2, zf_go 37], 34),
  (34, [zf_ic (-1000)], 37),
  (37, [zf_reti], 38)]
theorem zT21_37 (h : Nat) : zTab h 21 37 3 (zt21_37 h) := zTab.mk (ret := (some .int)) (bl := xk21_37) (by decide +kernel) (by decide +kernel) rfl rfl
def zt21_38 (h : Nat) : ZB := [(0, [zf_ald 0, zf_getR 21 7, zf_nnl 9, zf_ic (-1), zf_reti], 9),
  (9, [zf_ald 0, zf_getR 21 7, zf_ild 1, zf_ild 2, zf_inv h 18 26 2, zf_ist 3, zf_ald 0, zf_getR 21 7, zf_inv h 18 33 0, zf_if .ne 33, zf_ild 3, zf_go 34], 33),
  (33, [zf_ic (-1)], 34),
  (34, [zf_reti], 35)]
theorem zT21_38 (h : Nat) : zTab h 21 38 4 (zt21_38 h) := zTab.mk (ret := (some .int)) (bl := xk21_38) (by decide +kernel) (by decide +kernel) rfl rfl
def zt21_39 (h : Nat) : ZB := [(0, [zf_ald 0, zf_getR 21 7, zf_nnl 11, zf_ic 0, zf_go 18], 11),
  (11, [zf_ald 0, zf_getR 21 7, zf_inv h 18 27 0], 18),
  (18, [zf_reti], 19)]
theorem zT21_39 (h : Nat) : zTab h 21 39 1 (zt21_39 h) := zTab.mk (ret := (some .int)) (bl := xk21_39) (by decide +kernel) (by decide +kernel) rfl rfl
def zt21_40 (h : Nat) : ZB := [(0, [zf_ald 1, zf_ild 2, zf_ic 0, zf_inv h 20 27 2, zf_lst 4, zf_ald 1, zf_ild 2, zf_ic 1, zf_inv h 20 27 2, zf_lst 6, zf_ald 1, zf_ild 2, zf_ic 0, zf_inst h 21 35 3, zf_ist 8, zf_ild 8, zf_ic 1, zf_ic2 .ne 57, zf_ald 1, zf_ild 2, zf_ic 0, zf_ic 0, zf_inv h 20 50 3, zf_ic 43, zf_ic2 .ne 57, zf_ald 0, zf_getR 21 7, zf_ild 3, zf_lld 4, zf_lld 6, zf_inv h 18 18 3, zf_ist 9, zf_ret], 57),
  (57, [zf_ild 8, zf_if .le 78, zf_ald 1, zf_ild 2, zf_ic 0, zf_ic 0, zf_inv h 20 50 3, zf_ic 94, zf_ic2 .ne 78, zf_ic 1, zf_go 79], 78),
  (78, [zf_ic 0], 79),
  (79, [zf_ist 9, zf_ic 0, zf_ist 10, zf_ild 9, zf_ist 11], 88),
  (88, [zf_ild 11, zf_ild 8, zf_ic2 .ge 152, zf_ald 1, zf_ild 2, zf_ic 0, zf_ild 11, zf_inv h 20 50 3, zf_ist 12, zf_ild 12, zf_ic 48, zf_ic2 .lt 119, zf_ild 12, zf_ic 57, zf_ic2 .le 120], 119),
  (119, [zf_ret], 120),
  (120, [zf_ild 8, zf_ild 9, zf_sub, zf_ic 3, zf_ic2 .le 133, zf_ic 0, zf_go 144], 133),
  (133, [zf_ic 10, zf_ild 10, zf_mul, zf_ild 12, zf_add, zf_ic 48, zf_sub], 144),
  (144, [zf_ist 10, zf_inc 11 1, zf_go 88], 152),
  (152, [zf_ild 8, zf_ild 9, zf_sub, zf_ic 1, zf_ic2 .lt 170, zf_ild 8, zf_ild 9, zf_sub, zf_ic 3, zf_ic2 .le 171], 170),
  (170, [zf_ret], 171),
  (171, [zf_ald 0, zf_getR 21 7, zf_ild 3, zf_lld 4, zf_lld 6, zf_ild 10, zf_inv h 18 19 4, zf_ist 11, zf_ic 0, zf_ist 12], 190),
  (190, [zf_ild 12, zf_ald 0, zf_getI 21 11, zf_ic2 .ge 260, zf_ild 11, zf_ic (-1), zf_ic2 .eq 260, zf_ild 9, zf_ic 1, zf_ic2 .ne 260, zf_ild 12, zf_ild 3, zf_ic2 .eq 228, zf_ald 0, zf_getR 21 9, zf_ild 12, zf_aldI 100, zf_ild 3, zf_ic2 .ne 254], 228),
  (228, [zf_ald 0, zf_getR 21 10, zf_ild 12, zf_aldI 100, zf_ic (-1), zf_ic2 .eq 254, zf_ald 0, zf_getR 21 7, zf_ild 12, zf_ild 11, zf_ild 10, zf_inv h 18 30 3, zf_ist 13], 254),
  (254, [zf_inc 12 1, zf_go 190], 260),
  (260, [zf_ret], 261)]
theorem zT21_40 (h : Nat) : zTab h 21 40 14 (zt21_40 h) := zTab.mk (ret := none) (bl := xk21_40) (by decide +kernel) (by decide +kernel) rfl rfl
def zt21_41 (h : Nat) : ZB := [(0, [zf_ald 0, zf_getI 21 4, zf_ic (-1), zf_ic2 .ne 10, zf_lc 0, zf_retl], 10),
  (10, [zf_ald 0, zf_getR 21 3, zf_ald 0, zf_getI 21 4, zf_aldR, zf_ild 1, zf_ild 2, zf_inv h 20 27 2, zf_lst 3, zf_ald 0, zf_getR 21 3, zf_ald 0, zf_getI 21 4, zf_aldR, zf_inv h 20 51 0, zf_if .ne 44, zf_lld 3, zf_go 45], 44),
  (44, [zf_lc 0], 45),
  (45, [zf_retl], 46)]
theorem zT21_41 (h : Nat) : zTab h 21 41 5 (zt21_41 h) := zTab.mk (ret := (some .long)) (bl := xk21_41) (by decide +kernel) (by decide +kernel) rfl rfl
def zt21_42 (h : Nat) : ZB := [(0, [zf_ald 0, zf_getR 21 47, zf_ild 1, zf_inv h 12 35 1, zf_ist 2, zf_ald 0, zf_getR 21 47, zf_inv h 12 53 0, zf_if .ne 24, zf_ild 2, zf_i2l, zf_go 27], 24),
  (24, [zf_lc 1099511627776], 27),
  (27, [zf_retl], 28)]
theorem zT21_42 (h : Nat) : zTab h 21 42 3 (zt21_42 h) := zTab.mk (ret := (some .long)) (bl := xk21_42) (by decide +kernel) (by decide +kernel) rfl rfl
def zt21_43 (h : Nat) : ZB := [(0, [zf_ic 0, zf_ist 2, zf_ic 0, zf_ist 3], 4),
  (4, [zf_ild 3, zf_ald 0, zf_getI 21 15, zf_ic2 .ge 36, zf_ild 2, zf_ald 0, zf_getR 21 21, zf_ild 3, zf_aldI 100, zf_ild 1, zf_ic2 .ne 27, zf_ic 1, zf_go 28], 27),
  (27, [zf_ic 0], 28),
  (28, [zf_add, zf_ist 2, zf_inc 3 1, zf_go 4], 36),
  (36, [zf_ild 2, zf_reti], 38)]
theorem zT21_43 (h : Nat) : zTab h 21 43 4 (zt21_43 h) := zTab.mk (ret := (some .int)) (bl := xk21_43) (by decide +kernel) (by decide +kernel) rfl rfl
def zt21_44 (h : Nat) : ZB := [(0, [zf_ic 0, zf_ist 1, zf_ic 0, zf_ist 2], 4),
  (4, [zf_ild 2, zf_ald 0, zf_getI 21 2, zf_ic2 .ge 42, zf_ild 1, zf_ald 0, zf_getR 21 47, zf_ald 0, zf_getR 21 1, zf_ild 2, zf_aldI 100, zf_inv h 12 54 1, zf_if .eq 33, zf_ic 0, zf_go 34], 33),
  (33, [zf_ic 1], 34),
  (34, [zf_add, zf_ist 1, zf_inc 2 1, zf_go 4], 42),
  (42, [zf_ald 0, zf_ic 0, zf_putI 21 2, zf_ald 0, zf_getR 21 47, zf_inv h 12 39 0, zf_ist 2, zf_ald 0, zf_ild 2, zf_if .ge 64, zf_ic 2, zf_go 65], 64),
  (64, [zf_ic 0], 65),
  (65, [zf_putI 21 0, zf_ild 2, zf_if .ge 78, zf_ild 2, zf_ic 1, zf_sub, zf_go 79], 78),
  (78, [zf_ild 2], 79),
  (79, [zf_reti], 80)]
theorem zT21_44 (h : Nat) : zTab h 21 44 3 (zt21_44 h) := zTab.mk (ret := (some .int)) (bl := xk21_44) (by decide +kernel) (by decide +kernel) rfl rfl
def zt21_45 (h : Nat) : ZB := [(0, [zf_ald 0, zf_getR 21 50, zf_ild 1, zf_ild 2, zf_ild 3, zf_inv h 19 24 3, zf_ist 4, zf_ald 0, zf_getR 21 50, zf_inv h 19 33 0, zf_if .ne 27, zf_ild 4, zf_go 28], 27),
  (27, [zf_ic (-1)], 28),
  (28, [zf_reti], 29)]
theorem zT21_45 (h : Nat) : zTab h 21 45 5 (zt21_45 h) := zTab.mk (ret := (some .int)) (bl := xk21_45) (by decide +kernel) (by decide +kernel) rfl rfl
def zt21_46 (h : Nat) : ZB := [(0, [zf_ald 0, zf_getR 21 12, zf_nnl 13, zf_ald 0, zf_ic 3, zf_inv h 21 47 1, zf_reti], 13),
  (13, [zf_ald 0, zf_getR 21 13, zf_ild 1, zf_ild 2, zf_inv h 18 26 2, zf_ist 6, zf_ald 0, zf_getR 21 13, zf_inv h 18 33 0, zf_if .ne 50, zf_ald 0, zf_getR 21 12, zf_ild 3, zf_ild 4, zf_ild 5, zf_inv h 17 4 3, zf_ic (-1), zf_ic2 .ne 56], 50),
  (50, [zf_ald 0, zf_ic 2, zf_inv h 21 47 1, zf_reti], 56),
  (56, [zf_ald 0, zf_ild 1, zf_ild 2, zf_inv h 21 25 2, zf_if .eq 71, zf_ald 0, zf_ic 4, zf_inv h 21 47 1, zf_reti], 71),
  (71, [zf_ald 0, zf_ild 6, zf_inv h 21 56 1, zf_ist 7, zf_ald 0, zf_getI 21 15, zf_ic 40, zf_ic2 .eq 103, zf_ild 7, zf_ic (-1), zf_ic2 .ne 109, zf_ald 0, zf_getI 21 22, zf_ic 12, zf_ic2 .ne 109], 103),
  (103, [zf_ald 0, zf_ic 1, zf_inv h 21 47 1, zf_reti], 109),
  (109, [zf_ild 7, zf_ic (-1), zf_ic2 .ne 145, zf_ald 0, zf_getR 21 23, zf_ald 0, zf_getI 21 22, zf_ild 6, zf_astI, zf_ald 0, zf_getR 21 12, zf_inv h 17 20 0, zf_ist 7, zf_ald 0, zf_dup, zf_getI 21 22, zf_ic 1, zf_add, zf_putI 21 22], 145),
  (145, [zf_ald 0, zf_getR 21 12, zf_ild 7, zf_ild 3, zf_ild 4, zf_ild 5, zf_inv h 17 26 4, zf_if .ne 168, zf_ald 0, zf_ic 4, zf_inv h 21 47 1, zf_reti], 168),
  (168, [zf_ald 0, zf_getR 21 16, zf_ald 0, zf_getI 21 15, zf_ild 1, zf_astI, zf_ald 0, zf_getR 21 17, zf_ald 0, zf_getI 21 15, zf_ild 2, zf_astI, zf_ald 0, zf_getR 21 18, zf_ald 0, zf_getI 21 15, zf_ild 3, zf_astI, zf_ald 0, zf_getR 21 19, zf_ald 0, zf_getI 21 15, zf_ild 4, zf_astI, zf_ald 0, zf_getR 21 20, zf_ald 0, zf_getI 21 15, zf_ild 5, zf_astI, zf_ald 0, zf_getR 21 21, zf_ald 0, zf_getI 21 15, zf_ild 7, zf_astI, zf_ald 0, zf_dup, zf_getI 21 15, zf_ic 1, zf_add, zf_putI 21 15, zf_ald 0, zf_ald 0, zf_getI 21 15, zf_ic 1, zf_sub, zf_inv h 21 12 1, zf_reti], 252)]
theorem zT21_46 (h : Nat) : zTab h 21 46 8 (zt21_46 h) := zTab.mk (ret := (some .int)) (bl := xk21_46) (by decide +kernel) (by decide +kernel) rfl rfl
def zt21_47 (h : Nat) : ZB := [(0, [zf_ald 0, zf_ild 1, zf_putI 21 0, zf_ic (-1), zf_reti], 7)]
theorem zT21_47 (h : Nat) : zTab h 21 47 2 (zt21_47 h) := zTab.mk (ret := (some .int)) (bl := xk21_47) (by decide +kernel) (by decide +kernel) rfl rfl
def zt21_48 (h : Nat) : ZB := [(0, [zf_ald 0, zf_ild 1, zf_putI 21 0, zf_ild 1, zf_if .eq 13, zf_ic 1, zf_go 14], 13),
  (13, [zf_ic 0], 14),
  (14, [zf_retz], 15)]
theorem zT21_48 (h : Nat) : zTab h 21 48 2 (zt21_48 h) := zTab.mk (ret := (some .boolean)) (bl := xk21_48) (by decide +kernel) (by decide +kernel) rfl rfl
def zt21_49 (h : Nat) : ZB := [(0, [zf_ald 0, zf_getR 21 31, zf_nnl 13, zf_ald 0, zf_ic 3, zf_inv h 21 47 1, zf_reti], 13),
  (13, [zf_ald 0, zf_ic 0, zf_inv h 21 65 1, zf_ald 0, zf_getI 21 45, zf_ist 1, zf_ald 0, zf_getR 21 50, zf_inv h 19 20 0, zf_ic 10, zf_ic2 .eq 42, zf_ild 1, zf_ic 512, zf_ic2 .le 48], 42),
  (42, [zf_ald 0, zf_ic 1, zf_inv h 21 47 1, zf_reti], 48),
  (48, [zf_ald 0, zf_inv h 21 32 0, zf_if .ne 61, zf_ald 0, zf_ic 5, zf_inv h 21 47 1, zf_reti], 61),
  (61, [zf_ic 1, zf_ist 2, zf_ic 0, zf_ist 3], 65),
  (65, [zf_ild 3, zf_ild 1, zf_ic2 .ge 141, zf_ild 3, zf_ic 64, zf_rem, zf_if .ne 105, zf_ild 2, zf_if .eq 103, zf_ald 0, zf_getR 21 50, zf_ild 3, zf_ic 64, zf_div, zf_inv h 19 10 1, zf_ild 3, zf_ic 64, zf_div, zf_ic2 .ne 103, zf_ic 1, zf_go 104], 103),
  (103, [zf_ic 0], 104),
  (104, [zf_ist 2], 105),
  (105, [zf_ild 2, zf_if .eq 133, zf_ald 0, zf_getR 21 50, zf_ild 3, zf_ic 64, zf_div, zf_ald 0, zf_ic 0, zf_ild 3, zf_inv h 21 14 2, zf_inv h 19 3 2, zf_if .eq 133, zf_ic 1, zf_go 134], 133),
  (133, [zf_ic 0], 134),
  (134, [zf_ist 2, zf_inc 3 1, zf_go 65], 141),
  (141, [zf_ald 0, zf_ald 0, zf_getR 21 50, zf_inv h 19 7 0, zf_inv h 21 12 1, zf_reti], 153)]
theorem zT21_49 (h : Nat) : zTab h 21 49 4 (zt21_49 h) := zTab.mk (ret := (some .int)) (bl := xk21_49) (by decide +kernel) (by decide +kernel) rfl rfl
def zt21_50 (h : Nat) : ZB := [(0, [zf_ald 0, zf_getR 21 7, zf_nnl 11, zf_ic (-1), zf_go 19], 11),
  (11, [zf_ald 0, zf_getR 21 7, zf_ild 1, zf_inv h 18 34 1], 19),
  (19, [zf_reti], 20)]
theorem zT21_50 (h : Nat) : zTab h 21 50 2 (zt21_50 h) := zTab.mk (ret := (some .int)) (bl := xk21_50) (by decide +kernel) (by decide +kernel) rfl rfl
def zt21_51 (h : Nat) : ZB := [(0, [zf_ald 0, zf_getR 21 48, zf_getI 13 2, zf_if .eq 24, zf_ald 0, zf_ald 0, zf_getR 21 48, zf_inv h 13 11 0, zf_inv h 21 12 1, zf_go 29], 24),
  (24, [zf_ald 0, zf_ic 3, zf_inv h 21 47 1], 29),
  (29, [zf_reti], 30)]
theorem zT21_51 (h : Nat) : zTab h 21 51 1 (zt21_51 h) := zTab.mk (ret := (some .int)) (bl := xk21_51) (by decide +kernel) (by decide +kernel) rfl rfl
def zt21_52 (h : Nat) : ZB := [(0, [zf_ald 1, zf_ild 2, zf_inst h 21 23 2, zf_ist 3, zf_ic 0, zf_ist 4], 9),
  (9, [zf_ild 4, zf_ild 2, zf_ic2 .ge 55, zf_ild 3, zf_ic (-1), zf_ic2 .eq 55, zf_ald 0, zf_ild 4, zf_inv h 21 31 1, zf_if .eq 49, zf_ald 1, zf_ild 3, zf_ic 1, zf_ild 4, zf_ic 0, zf_inst h 21 61 5, zf_if .eq 49, zf_ald 0, zf_getR 21 8, zf_ild 4, zf_aldI 100, zf_reti], 49),
  (49, [zf_inc 4 1, zf_go 9], 55),
  (55, [zf_ic (-1), zf_reti], 57)]
theorem zT21_52 (h : Nat) : zTab h 21 52 5 (zt21_52 h) := zTab.mk (ret := (some .int)) (bl := xk21_52) (by decide +kernel) (by decide +kernel) rfl rfl
def zt21_53 (h : Nat) : ZB := [(0, [zf_ald 0, zf_getR 21 31, zf_nul 17, zf_ild 1, zf_if .lt 17, zf_ild 1, zf_ic 6, zf_ic2 .le 19], 17),
  (17, [zf_ic (-1), zf_reti], 19),
  (19, [zf_ald 0, zf_getR 21 40, zf_inv h 16 3 0, zf_ic 1, zf_ist 2, zf_ic 0, zf_ist 3], 30),
  (30, [zf_ald 0, zf_ild 1, zf_ild 3, zf_inv h 21 14 2, zf_ic (-1), zf_ic2 .eq 72, zf_ild 2, zf_if .eq 64, zf_ald 0, zf_getR 21 40, zf_ald 0, zf_ild 1, zf_ild 3, zf_inv h 21 14 2, zf_inv h 16 30 1, zf_if .eq 64, zf_ic 1, zf_go 65], 64),
  (64, [zf_ic 0], 65),
  (65, [zf_ist 2, zf_inc 3 1, zf_go 30], 72),
  (72, [zf_ald 0, zf_getR 21 40, zf_inv h 16 21 0, zf_ist 3, zf_ic 0, zf_ist 4, zf_ic 0, zf_ist 5], 86),
  (86, [zf_ild 5, zf_ald 0, zf_getI 21 35, zf_ic2 .ge 230, zf_ald 0, zf_getR 21 39, zf_ild 5, zf_aldI 100, zf_ist 6, zf_ald 0, zf_getR 21 36, zf_ild 6, zf_aldI 100, zf_ild 1, zf_ic2 .eq 118, zf_go 224], 118),
  (118, [zf_ild 2, zf_if .eq 219, zf_ild 4, zf_ild 3, zf_ic2 .ge 219, zf_ald 0, zf_getR 21 40, zf_ild 4, zf_ic 1, zf_inv h 16 2 2, zf_lc 1000, zf_ald 0, zf_getR 21 37, zf_ild 6, zf_aldI 100, zf_i2l, zf_lmul, zf_lcmp, zf_if .ne 219, zf_ald 0, zf_getR 21 40, zf_ild 4, zf_ic 2, zf_inv h 16 2 2, zf_lc 1000, zf_ald 0, zf_getR 21 38, zf_ild 6, zf_aldI 100, zf_i2l, zf_lmul, zf_lcmp, zf_if .ne 219, zf_ald 0, zf_getR 21 40, zf_ild 4, zf_ic 5, zf_inv h 16 2 2, zf_ild 1, zf_i2l, zf_lcmp, zf_if .ne 219, zf_ald 0, zf_getR 21 40, zf_ild 4, zf_ic 6, zf_inv h 16 2 2, zf_ild 1, zf_ic 1, zf_add, zf_i2l, zf_lcmp, zf_if .ne 219, zf_ic 1, zf_go 220], 219),
  (219, [zf_ic 0], 220),
  (220, [zf_ist 2, zf_inc 4 1], 224),
  (224, [zf_inc 5 1, zf_go 86], 230),
  (230, [zf_ild 2, zf_if .eq 244, zf_ild 4, zf_ild 3, zf_ic2 .ne 244, zf_ic 1, zf_go 245], 244),
  (244, [zf_ic 0], 245),
  (245, [zf_reti], 246)]
theorem zT21_53 (h : Nat) : zTab h 21 53 7 (zt21_53 h) := zTab.mk (ret := (some .int)) (bl := xk21_53) (by decide +kernel) (by decide +kernel) rfl rfl
def zt21_54 (h : Nat) : ZB := [(0, [zf_ald 0, zf_getR 21 50, zf_ild 1, zf_ild 2, zf_inv h 19 27 2, zf_ist 3, zf_ald 0, zf_getR 21 50, zf_inv h 19 33 0, zf_if .ne 24, zf_ild 3, zf_go 25], 24),
  (24, [zf_ic (-1)], 25),
  (25, [zf_reti], 26)]
theorem zT21_54 (h : Nat) : zTab h 21 54 4 (zt21_54 h) := zTab.mk (ret := (some .int)) (bl := xk21_54) (by decide +kernel) (by decide +kernel) rfl rfl
def zt21_55 (h : Nat) : ZB := [(0, [zf_ald 0, zf_getR 21 12, zf_nnl 13, zf_ald 0, zf_ic 3, zf_inv h 21 47 1, zf_reti], 13),
  (13, [zf_ald 0, zf_getR 21 12, zf_ild 1, zf_inv h 17 29 1, zf_ist 2, zf_ald 0, zf_getR 21 12, zf_inv h 17 32 0, zf_if .ne 40, zf_ald 0, zf_ild 2, zf_inv h 21 12 1, zf_go 45], 40),
  (40, [zf_ald 0, zf_ic 2, zf_inv h 21 47 1], 45),
  (45, [zf_reti], 46)]
theorem zT21_55 (h : Nat) : zTab h 21 55 3 (zt21_55 h) := zTab.mk (ret := (some .int)) (bl := xk21_55) (by decide +kernel) (by decide +kernel) rfl rfl
def zt21_56 (h : Nat) : ZB := [(0, [zf_ic (-1), zf_ist 2, zf_ic 0, zf_ist 3], 4),
  (4, [zf_ild 3, zf_ald 0, zf_getI 21 22, zf_ic2 .ge 34, zf_ald 0, zf_getR 21 23, zf_ild 3, zf_aldI 100, zf_ild 1, zf_ic2 .ne 26, zf_ild 3, zf_go 27], 26),
  (26, [zf_ild 2], 27),
  (27, [zf_ist 2, zf_inc 3 1, zf_go 4], 34),
  (34, [zf_ild 2, zf_reti], 36)]
theorem zT21_56 (h : Nat) : zTab h 21 56 4 (zt21_56 h) := zTab.mk (ret := (some .int)) (bl := xk21_56) (by decide +kernel) (by decide +kernel) rfl rfl
def zt21_57 (h : Nat) : ZB := [(0, [zf_ald 0, zf_ild 1, zf_ild 2, zf_ic 0, zf_ic 0, zf_ild 3, zf_ild 4, zf_ild 5, zf_ild 6, zf_ic 100, zf_inv h 21 69 9, zf_ald 0, zf_getI 21 41, zf_if .ne 25, zf_ret], 25),
  (25, [zf_ald 0, zf_getR 21 31, zf_ild 2, zf_lc 1000, zf_ild 3, zf_i2l, zf_lmul, zf_lc 100, zf_lsub, zf_lc 1000, zf_ild 4, zf_i2l, zf_lmul, zf_lc 100, zf_lsub, zf_lc 1000, zf_ild 5, zf_ild 3, zf_sub, zf_i2l, zf_lmul, zf_lc 200, zf_ladd, zf_lc 1000, zf_ild 6, zf_ild 4, zf_sub, zf_i2l, zf_lmul, zf_lc 200, zf_ladd, zf_inv h 15 23 5, zf_ist 7, zf_ret], 84)]
theorem zT21_57 (h : Nat) : zTab h 21 57 8 (zt21_57 h) := zTab.mk (ret := none) (bl := xk21_57) (by decide +kernel) (by decide +kernel) rfl rfl
def zt21_58 (h : Nat) : ZB := [(0, [zf_ild 2, zf_ic (-1), zf_ic2 .lt 24, zf_ild 2, zf_ic 4, zf_ic2 .ge 24, zf_ild 3, zf_ic (-1), zf_ic2 .lt 24, zf_ild 3, zf_ic 4, zf_ic2 .ge 24, zf_ic 1, zf_go 25], 24),
  (24, [zf_ic 0], 25),
  (25, [zf_ist 5, zf_ild 1, zf_if .lt 63, zf_ild 1, zf_ic 4, zf_ic2 .gt 63, zf_ild 5, zf_if .eq 63, zf_ild 4, zf_if .lt 63, zf_ild 4, zf_ild 1, zf_ic 4, zf_ic2 .ne 57, zf_ic 0, zf_go 60], 57),
  (57, [zf_ic 100000], 60),
  (60, [zf_ic2 .le 69], 63),
  (63, [zf_ald 0, zf_ic 2, zf_inv h 21 47 1, zf_reti], 69),
  (69, [zf_ald 0, zf_getI 21 24, zf_ic 30, zf_ic2 .ne 84, zf_ald 0, zf_ic 1, zf_inv h 21 47 1, zf_reti], 84),
  (84, [zf_ald 0, zf_getR 21 25, zf_ald 0, zf_getI 21 24, zf_ild 1, zf_astI, zf_ald 0, zf_getR 21 26, zf_ald 0, zf_getI 21 24, zf_ild 2, zf_astI, zf_ald 0, zf_getR 21 27, zf_ald 0, zf_getI 21 24, zf_ild 3, zf_astI, zf_ald 0, zf_getR 21 28, zf_ald 0, zf_getI 21 24, zf_ild 4, zf_astI, zf_ald 0, zf_dup, zf_getI 21 24, zf_ic 1, zf_add, zf_putI 21 24, zf_ald 0, zf_ald 0, zf_getI 21 24, zf_ic 1, zf_sub, zf_inv h 21 12 1, zf_reti], 146)]
theorem zT21_58 (h : Nat) : zTab h 21 58 6 (zt21_58 h) := zTab.mk (ret := (some .int)) (bl := xk21_58) (by decide +kernel) (by decide +kernel) rfl rfl
def zt21_59 (h : Nat) : ZB := [(0, [zf_ald 0, zf_getR 21 47, zf_ild 1, zf_i2l, zf_inv h 12 48 1, zf_ist 2, zf_ald 0, zf_getR 21 47, zf_inv h 12 53 0, zf_if .ne 28, zf_ald 0, zf_ild 2, zf_inv h 21 12 1, zf_go 33], 28),
  (28, [zf_ald 0, zf_ic 2, zf_inv h 21 47 1], 33),
  (33, [zf_reti], 34)]
theorem zT21_59 (h : Nat) : zTab h 21 59 3 (zt21_59 h) := zTab.mk (ret := (some .int)) (bl := xk21_59) (by decide +kernel) (by decide +kernel) rfl rfl
def zt21_60 (h : Nat) : ZB := [(0, [zf_ild 3, zf_if .eq 14, zf_ald 0, zf_getR 21 12, zf_getI 17 2, zf_go 21], 14),
  (14, [zf_ald 0, zf_getR 21 12, zf_getI 17 1], 21),
  (21, [zf_ist 4, zf_ild 3, zf_if .eq 37, zf_ald 0, zf_getR 21 12, zf_getI 17 1, zf_go 44], 37),
  (37, [zf_ald 0, zf_getR 21 12, zf_getI 17 2], 44),
  (44, [zf_ist 5, zf_ic 0, zf_ist 6], 49),
  (49, [zf_ild 6, zf_ild 4, zf_ic2 .ge 189, zf_ic 0, zf_ist 7], 59),
  (59, [zf_ild 7, zf_ild 5, zf_ic2 .ge 183, zf_ild 7, zf_ist 8], 70),
  (70, [zf_ild 8, zf_ild 5, zf_ic2 .ge 116, zf_ild 3, zf_if .eq 97, zf_ald 0, zf_ild 1, zf_ild 2, zf_ild 8, zf_ild 6, zf_inv h 21 27 4, zf_if .eq 116, zf_go 110], 97),
  (97, [zf_ald 0, zf_ild 1, zf_ild 2, zf_ild 6, zf_ild 8, zf_inv h 21 27 4, zf_if .eq 116], 110),
  (110, [zf_inc 8 1, zf_go 70], 116),
  (116, [zf_ild 8, zf_ild 7, zf_sub, zf_ic 1, zf_ic2 .le 145, zf_ild 3, zf_if .eq 145, zf_ald 0, zf_ild 1, zf_ild 2, zf_ild 7, zf_ild 6, zf_ild 8, zf_ic 1, zf_sub, zf_ild 6, zf_inv h 21 57 6], 145),
  (145, [zf_ild 8, zf_ild 7, zf_sub, zf_ic 1, zf_ic2 .le 174, zf_ild 3, zf_if .ne 174, zf_ald 0, zf_ild 1, zf_ild 2, zf_ild 6, zf_ild 7, zf_ild 6, zf_ild 8, zf_ic 1, zf_sub, zf_inv h 21 57 6], 174),
  (174, [zf_ild 8, zf_ic 1, zf_add, zf_ist 7, zf_go 59], 183),
  (183, [zf_inc 6 1, zf_go 49], 189),
  (189, [zf_ret], 190)]
theorem zT21_60 (h : Nat) : zTab h 21 60 9 (zt21_60 h) := zTab.mk (ret := none) (bl := xk21_60) (by decide +kernel) (by decide +kernel) rfl rfl
def zt21_61 (h : Nat) : ZB := [(0, [zf_ald 0, zf_ild 1, zf_ild 2, zf_inst h 21 35 3, zf_ist 5, zf_ild 5, zf_ald 0, zf_ild 3, zf_ild 4, zf_inst h 21 35 3, zf_ic2 .eq 22, zf_ic 0, zf_retz], 22),
  (22, [zf_ic 0, zf_ist 6], 25),
  (25, [zf_ild 6, zf_ild 5, zf_ic2 .ge 60, zf_ald 0, zf_ild 1, zf_ild 2, zf_ild 6, zf_inv h 20 50 3, zf_ald 0, zf_ild 3, zf_ild 4, zf_ild 6, zf_inv h 20 50 3, zf_ic2 .eq 54, zf_ic 0, zf_retz], 54),
  (54, [zf_inc 6 1, zf_go 25], 60),
  (60, [zf_ic 1, zf_retz], 62)]
theorem zT21_61 (h : Nat) : zTab h 21 61 7 (zt21_61 h) := zTab.mk (ret := (some .boolean)) (bl := xk21_61) (by decide +kernel) (by decide +kernel) rfl rfl
def zt21_62 (h : Nat) : ZB := [(0, [zf_ald 0, zf_getR 21 12, zf_nul 17, zf_ald 0, zf_getR 21 48, zf_getI 13 2, zf_if .eq 23], 17),
  (17, [zf_ald 0, zf_ic 3, zf_inv h 21 47 1, zf_reti], 23),
  (23, [zf_ald 0, zf_inv h 21 26 0, zf_if .ne 36, zf_ald 0, zf_ic 1, zf_inv h 21 47 1, zf_reti], 36),
  (36, [zf_ic 0, zf_ist 1, zf_ic 0, zf_ist 2], 40),
  (40, [zf_ild 2, zf_ald 0, zf_getI 21 22, zf_ic2 .ge 77, zf_ald 0, zf_ild 2, zf_inv h 21 22 1, zf_ald 0, zf_getR 21 48, zf_getI 13 3, zf_if .le 71, zf_ald 0, zf_getR 21 48, zf_inv h 13 2 0, zf_ist 1], 71),
  (71, [zf_inc 2 1, zf_go 40], 77),
  (77, [zf_ald 0, zf_ald 0, zf_getR 21 48, zf_inv h 13 16 0, zf_inv h 21 12 1, zf_reti], 89)]
theorem zT21_62 (h : Nat) : zTab h 21 62 3 (zt21_62 h) := zTab.mk (ret := (some .int)) (bl := xk21_62) (by decide +kernel) (by decide +kernel) rfl rfl
def zt21_63 (h : Nat) : ZB := [(0, [zf_ald 0, zf_getR 21 48, zf_ild 1, zf_ild 2, zf_inv h 13 10 2, zf_ist 3, zf_ald 0, zf_getR 21 48, zf_inv h 13 15 0, zf_if .ne 24, zf_ild 3, zf_go 25], 24),
  (24, [zf_ic (-1)], 25),
  (25, [zf_reti], 26)]
theorem zT21_63 (h : Nat) : zTab h 21 63 4 (zt21_63 h) := zTab.mk (ret := (some .int)) (bl := xk21_63) (by decide +kernel) (by decide +kernel) rfl rfl
def zt21_64 (h : Nat) : ZB := [(0, [zf_ald 0, zf_getI 21 45, zf_ald 0, zf_getI 21 44, zf_ic2 .ne 16, zf_ald 0, zf_ild 1, zf_putI 21 46], 16),
  (16, [zf_ald 0, zf_dup, zf_getI 21 45, zf_ic 1, zf_add, zf_putI 21 45, zf_ret], 27)]
theorem zT21_64 (h : Nat) : zTab h 21 64 2 (zt21_64 h) := zTab.mk (ret := none) (bl := xk21_64) (by decide +kernel) (by decide +kernel) rfl rfl
def zt21_65 (h : Nat) : ZB := [(0, [zf_ald 0, zf_ic 0, zf_putI 21 45, zf_ald 0, zf_ic 77, zf_inv h 21 64 1, zf_ald 0, zf_ic 52, zf_inv h 21 64 1, zf_ald 0, zf_ic 56, zf_inv h 21 64 1, zf_ald 0, zf_ic 10, zf_inv h 21 64 1, zf_ald 0, zf_ic 76, zf_inv h 21 64 1, zf_ald 0, zf_ild 1, zf_inv h 21 66 1, zf_ald 0, zf_ic 44, zf_inv h 21 64 1, zf_ald 0, zf_ild 1, zf_ic 1, zf_add, zf_inv h 21 66 1, zf_ald 0, zf_ic 10, zf_inv h 21 64 1, zf_ald 0, zf_inv h 21 67 0, zf_ald 0, zf_ic 67, zf_inv h 21 64 1, zf_ald 0, zf_ic 300, zf_inv h 21 66 1, zf_ald 0, zf_ic 80, zf_inv h 21 64 1, zf_ald 0, zf_ic 10, zf_inv h 21 64 1, zf_ald 0, zf_ic 37, zf_inv h 21 64 1, zf_ald 0, zf_ic 10, zf_inv h 21 64 1, zf_ic 0, zf_ist 2, zf_ic 0, zf_ist 3], 104),
  (104, [zf_ild 3, zf_ald 0, zf_getI 21 35, zf_ic2 .ge 204, zf_ald 0, zf_getR 21 39, zf_ild 3, zf_aldI 100, zf_ist 4, zf_ald 0, zf_getR 21 36, zf_ild 4, zf_aldI 100, zf_ild 1, zf_ic2 .eq 134, zf_go 198], 134),
  (134, [zf_ild 2, zf_if .ne 148, zf_ald 0, zf_inv h 21 67 0, zf_ald 0, zf_ic 10, zf_inv h 21 64 1], 148),
  (148, [zf_ic 1, zf_ist 2, zf_ald 0, zf_ic 88, zf_inv h 21 64 1, zf_ald 0, zf_ic 1000, zf_ald 0, zf_getR 21 37, zf_ild 4, zf_aldI 100, zf_mul, zf_inv h 21 66 1, zf_ald 0, zf_ic 89, zf_inv h 21 64 1, zf_ald 0, zf_ic 1000, zf_ald 0, zf_getR 21 38, zf_ild 4, zf_aldI 100, zf_mul, zf_inv h 21 66 1, zf_ald 0, zf_ic 10, zf_inv h 21 64 1], 198),
  (198, [zf_inc 3 1, zf_go 104], 204),
  (204, [zf_ald 0, zf_ic 77, zf_inv h 21 64 1, zf_ald 0, zf_ic 51, zf_inv h 21 64 1, zf_ald 0, zf_ic 48, zf_inv h 21 64 1, zf_ald 0, zf_ic 10, zf_inv h 21 64 1, zf_ret], 229)]
theorem zT21_65 (h : Nat) : zTab h 21 65 5 (zt21_65 h) := zTab.mk (ret := none) (bl := xk21_65) (by decide +kernel) (by decide +kernel) rfl rfl
def zt21_66 (h : Nat) : ZB := [(0, [zf_ic 1, zf_ist 2], 2),
  (2, [zf_ild 1, zf_ild 2, zf_div, zf_ic 9, zf_ic2 .le 18, zf_ic 10, zf_ild 2, zf_mul, zf_ist 2, zf_go 2], 18),
  (18, [zf_ild 2, zf_if .le 43, zf_ald 0, zf_ic 48, zf_ild 1, zf_ild 2, zf_div, zf_ic 10, zf_rem, zf_add, zf_inv h 21 64 1, zf_ild 2, zf_ic 10, zf_div, zf_ist 2, zf_go 18], 43),
  (43, [zf_ret], 44)]
theorem zT21_66 (h : Nat) : zTab h 21 66 3 (zt21_66 h) := zTab.mk (ret := none) (bl := xk21_66) (by decide +kernel) (by decide +kernel) rfl rfl
def zt21_67 (h : Nat) : ZB := [(0, [zf_ald 0, zf_ic 84, zf_inv h 21 64 1, zf_ald 0, zf_ic 48, zf_inv h 21 64 1, zf_ret], 13)]
theorem zT21_67 (h : Nat) : zTab h 21 67 1 (zt21_67 h) := zTab.mk (ret := none) (bl := xk21_67) (by decide +kernel) (by decide +kernel) rfl rfl
def zt21_68 (h : Nat) : ZB := [(0, [zf_ald 0, zf_getR 21 50, zf_ild 1, zf_inv h 19 18 1, zf_if .ne 17, zf_ald 0, zf_ic 2, zf_inv h 21 47 1, zf_reti], 17),
  (17, [zf_ald 0, zf_getR 21 50, zf_getI 19 22, zf_ic 60, zf_ic2 .ne 35, zf_ald 0, zf_ic 1, zf_inv h 21 47 1, zf_reti], 35),
  (35, [zf_ald 0, zf_getR 21 50, zf_ild 1, zf_inv h 19 29 1, zf_ist 2, zf_ild 2, zf_ic (-1), zf_ic2 .ne 57, zf_ald 0, zf_ic 5, zf_inv h 21 47 1, zf_go 62], 57),
  (57, [zf_ald 0, zf_ild 2, zf_inv h 21 12 1], 62),
  (62, [zf_reti], 63)]
theorem zT21_68 (h : Nat) : zTab h 21 68 3 (zt21_68 h) := zTab.mk (ret := (some .int)) (bl := xk21_68) (by decide +kernel) (by decide +kernel) rfl rfl
def zt21_69 (h : Nat) : ZB := [(0, [zf_ald 0, zf_dup, zf_getI 21 42, zf_ic 1, zf_add, zf_putI 21 42, zf_ald 0, zf_getI 21 41, zf_if .ne 18, zf_ret], 18),
  (18, [zf_ald 0, zf_getR 21 32, zf_ild 1, zf_ild 2, zf_ild 3, zf_inv h 14 32 3, zf_ist 10, zf_ald 0, zf_getR 21 32, zf_ild 10, zf_lc 1000, zf_ild 5, zf_i2l, zf_lmul, zf_lc 1000, zf_ild 6, zf_i2l, zf_lmul, zf_inv h 14 4 3, zf_ist 11, zf_ild 3, zf_if .ne 84, zf_ald 0, zf_getR 21 32, zf_ild 10, zf_lc 1000, zf_ild 7, zf_i2l, zf_lmul, zf_lc 1000, zf_ild 8, zf_i2l, zf_lmul, zf_inv h 14 4 3, zf_ist 11], 84),
  (84, [zf_ald 0, zf_getR 21 32, zf_ild 10, zf_ild 9, zf_i2l, zf_inv h 14 1 2, zf_ist 11, zf_ald 0, zf_getR 21 32, zf_ild 10, zf_ild 4, zf_inv h 14 2 2, zf_ist 11, zf_ret], 112)]
theorem zT21_69 (h : Nat) : zTab h 21 69 12 (zt21_69 h) := zTab.mk (ret := none) (bl := xk21_69) (by decide +kernel) (by decide +kernel) rfl rfl
def zt21_70 (h : Nat) : ZB := [(0, [zf_ild 1, zf_if .lt 9, zf_ild 1, zf_ic 1, zf_ic2 .le 15], 9),
  (9, [zf_ald 0, zf_ic 2, zf_inv h 21 47 1, zf_reti], 15),
  (15, [zf_ald 0, zf_getI 21 5, zf_ic 24, zf_ic2 .eq 32, zf_ald 0, zf_getI 21 6, zf_ic 4, zf_ic2 .ne 38], 32),
  (32, [zf_ald 0, zf_ic 1, zf_inv h 21 47 1, zf_reti], 38),
  (38, [zf_ald 0, zf_dup, zf_getI 21 5, zf_ic 1, zf_add, zf_putI 21 5, zf_ald 0, zf_getR 21 3, zf_ild 1, zf_aldR, zf_ast 2, zf_ald 2, zf_inv h 20 6 0, zf_ic 0, zf_ist 3, zf_ic 0, zf_ist 4], 64),
  (64, [zf_ild 4, zf_ald 0, zf_getI 21 2, zf_ic2 .ge 101, zf_ild 3, zf_ald 2, zf_ald 0, zf_getR 21 1, zf_ild 4, zf_aldI 100, zf_inv h 20 52 1, zf_if .eq 92, zf_ic 0, zf_go 93], 92),
  (92, [zf_ic 1], 93),
  (93, [zf_add, zf_ist 3, zf_inc 4 1, zf_go 64], 101),
  (101, [zf_ald 0, zf_ic 0, zf_putI 21 2, zf_ald 2, zf_inv h 20 32 0, zf_ist 4, zf_ild 4, zf_if .ge 127, zf_ald 0, zf_ic 2, zf_putI 21 0, zf_ild 4, zf_ic 1, zf_sub, zf_reti], 127),
  (127, [zf_ald 0, zf_ild 1, zf_putI 21 4, zf_ald 0, zf_dup, zf_getI 21 6, zf_ic 1, zf_add, zf_putI 21 6, zf_ald 0, zf_new 18 33, zf_dup, zf_ins h 18 5 0, zf_putR 21 7, zf_ald 0, zf_ald 2, zf_inv h 21 13 1, zf_ald 0, zf_ild 4, zf_inv h 21 12 1, zf_reti], 165)]
theorem zT21_70 (h : Nat) : zTab h 21 70 5 (zt21_70 h) := zTab.mk (ret := (some .int)) (bl := xk21_70) (by decide +kernel) (by decide +kernel) rfl rfl
def zt21_71 (h : Nat) : ZB := [(0, [zf_ald 0, zf_getR 21 31, zf_nnl 11, zf_ic (-1), zf_go 18], 11),
  (11, [zf_ald 0, zf_getR 21 31, zf_inv h 15 24 0], 18),
  (18, [zf_reti], 19)]
theorem zT21_71 (h : Nat) : zTab h 21 71 1 (zt21_71 h) := zTab.mk (ret := (some .int)) (bl := xk21_71) (by decide +kernel) (by decide +kernel) rfl rfl
def zt21_72 (h : Nat) : ZB := [(0, [zf_ald 0, zf_getR 21 48, zf_getI 13 2, zf_if .eq 16, zf_ald 0, zf_ic 3, zf_inv h 21 47 1, zf_reti], 16),
  (16, [zf_ald 0, zf_getR 21 48, zf_getI 13 5, zf_ic 400, zf_ic2 .ne 35, zf_ald 0, zf_ic 1, zf_inv h 21 47 1, zf_reti], 35),
  (35, [zf_ald 0, zf_ald 0, zf_getR 21 48, zf_inv h 13 13 0, zf_inv h 21 12 1, zf_reti], 47)]
theorem zT21_72 (h : Nat) : zTab h 21 72 1 (zt21_72 h) := zTab.mk (ret := (some .int)) (bl := xk21_72) (by decide +kernel) (by decide +kernel) rfl rfl
def zt21_73 (h : Nat) : ZB := [(0, [zf_ald 1, zf_ald 1, zf_ild 2, zf_inv h 20 29 1, zf_inv h 20 29 1, zf_ist 3, zf_ald 1, zf_ild 3, zf_inv h 20 29 1, zf_ist 4, zf_ald 0, zf_ild 4, zf_inv h 21 31 1, zf_if .ne 27, zf_ret], 27),
  (27, [zf_ald 0, zf_getR 21 7, zf_ald 0, zf_getR 21 8, zf_ild 4, zf_aldI 100, zf_ald 1, zf_ild 3, zf_ic 0, zf_inv h 20 27 2, zf_ald 1, zf_ild 2, zf_ic 0, zf_inv h 20 27 2, zf_ladd, zf_ald 1, zf_ild 3, zf_ic 1, zf_inv h 20 27 2, zf_ald 1, zf_ild 2, zf_ic 1, zf_inv h 20 27 2, zf_ladd, zf_ild 3, zf_inv h 18 29 4, zf_ist 5, zf_ret], 71)]
theorem zT21_73 (h : Nat) : zTab h 21 73 6 (zt21_73 h) := zTab.mk (ret := none) (bl := xk21_73) (by decide +kernel) (by decide +kernel) rfl rfl
def zt21_74 (h : Nat) : ZB := [(0, [zf_ald 0, zf_getI 21 0, zf_reti], 5)]
theorem zT21_74 (h : Nat) : zTab h 21 74 1 (zt21_74 h) := zTab.mk (ret := (some .int)) (bl := xk21_74) (by decide +kernel) (by decide +kernel) rfl rfl
def zt21_75 (h : Nat) : ZB := [(0, [zf_ald 0, zf_getR 21 31, zf_nul 28, zf_ild 1, zf_if .lt 28, zf_ild 1, zf_ald 0, zf_getI 21 33, zf_ic2 .ge 28, zf_ild 2, zf_if .lt 28, zf_ild 2, zf_ic 2, zf_ic2 .le 30], 28),
  (28, [zf_ic (-1), zf_reti], 30),
  (30, [zf_ald 0, zf_getR 21 32, zf_ild 1, zf_ild 2, zf_inv h 14 35 2, zf_ist 3, zf_ild 2, zf_if .ne 55, zf_ild 3, zf_ic 3, zf_ic2 .le 55, zf_ild 3, zf_ic 1, zf_sub, zf_go 56], 55),
  (55, [zf_ild 3], 56),
  (56, [zf_reti], 57)]
theorem zT21_75 (h : Nat) : zTab h 21 75 4 (zt21_75 h) := zTab.mk (ret := (some .int)) (bl := xk21_75) (by decide +kernel) (by decide +kernel) rfl rfl
def zt21_76 (h : Nat) : ZB := [(0, [zf_ald 0, zf_getR 21 31, zf_nnl 11, zf_ic (-1), zf_go 15], 11),
  (11, [zf_ald 0, zf_getI 21 33], 15),
  (15, [zf_reti], 16)]
theorem zT21_76 (h : Nat) : zTab h 21 76 1 (zt21_76 h) := zTab.mk (ret := (some .int)) (bl := xk21_76) (by decide +kernel) (by decide +kernel) rfl rfl
def zt21_77 (h : Nat) : ZB := [(0, [zf_ald 0, zf_getR 21 12, zf_nnl 9, zf_ic (-1), zf_reti], 9),
  (9, [zf_ald 0, zf_getR 21 12, zf_ild 1, zf_ild 2, zf_ild 3, zf_inv h 17 25 3, zf_ist 4, zf_ald 0, zf_getR 21 12, zf_inv h 17 32 0, zf_if .ne 36, zf_ild 4, zf_go 37], 36),
  (36, [zf_ic (-1)], 37),
  (37, [zf_reti], 38)]
theorem zT21_77 (h : Nat) : zTab h 21 77 5 (zt21_77 h) := zTab.mk (ret := (some .int)) (bl := xk21_77) (by decide +kernel) (by decide +kernel) rfl rfl
def zt21_78 (h : Nat) : ZB := [(0, [zf_ald 0, zf_getR 21 7, zf_ild 3, zf_ald 1, zf_ild 2, zf_ic 0, zf_inv h 20 27 2, zf_ald 1, zf_ild 2, zf_ic 1, zf_inv h 20 27 2, zf_ald 1, zf_ild 2, zf_ic 2, zf_inv h 20 27 2, zf_ald 1, zf_ild 2, zf_ic 3, zf_inv h 20 27 2, zf_inv h 18 36 5, zf_ist 4, zf_ret], 35)]
theorem zT21_78 (h : Nat) : zTab h 21 78 5 (zt21_78 h) := zTab.mk (ret := none) (bl := xk21_78) (by decide +kernel) (by decide +kernel) rfl rfl
def zt21_79 (h : Nat) : ZB := [(0, [zf_ald 0, zf_getR 21 50, zf_ild 1, zf_inv h 19 35 1, zf_ist 2, zf_ald 0, zf_ald 0, zf_getR 21 50, zf_inv h 19 33 0, zf_if .eq 24, zf_ic 2, zf_go 34], 24),
  (24, [zf_ild 2, zf_ic (-1), zf_ic2 .ne 33, zf_ic 4, zf_go 34], 33),
  (33, [zf_ic 0], 34),
  (34, [zf_inv h 21 48 1, zf_if .ne 44, zf_ic 1, zf_go 45], 44),
  (44, [zf_ic 0], 45),
  (45, [zf_retz], 46)]
theorem zT21_79 (h : Nat) : zTab h 21 79 3 (zt21_79 h) := zTab.mk (ret := (some .boolean)) (bl := xk21_79) (by decide +kernel) (by decide +kernel) rfl rfl
def zt21_80 (h : Nat) : ZB := [(0, [zf_ald 0, zf_getI 21 4, zf_ic (-1), zf_ic2 .eq 12, zf_ild 1, zf_if .ge 16], 12),
  (12, [zf_ic (-1), zf_go 29], 16),
  (16, [zf_ald 0, zf_getR 21 3, zf_ald 0, zf_getI 21 4, zf_aldR, zf_ild 1, zf_inv h 20 55 1], 29),
  (29, [zf_reti], 30)]
theorem zT21_80 (h : Nat) : zTab h 21 80 2 (zt21_80 h) := zTab.mk (ret := (some .int)) (bl := xk21_80) (by decide +kernel) (by decide +kernel) rfl rfl
def zt22_0 (h : Nat) : ZB := [(0, [zf_new 11 20, zf_dup, zf_ins h 11 23 0, zf_ast 1, zf_new 21 51, zf_dup, zf_ins h 21 30 0, zf_ast 2, zf_ic 0, zf_ist 3], 18),
  (18, [zf_ild 3, zf_ald 0, zf_len, zf_ic 6, zf_sub, zf_ic2 .gt 1660, zf_ald 0, zf_ild 3, zf_aldI 100, zf_ic 63, zf_bit zand, zf_sw 1654 0 48 [244, 307, 330, 353, 376, 410, 433, 446, 479, 502, 525, 608, 671, 714, 767, 790, 833, 857, 890, 943, 956, 969, 1002, 1025, 1068, 1081, 1094, 1127, 1150, 1163, 1176, 1199, 1223, 1246, 1269, 1282, 1305, 1318, 1341, 1354, 1387, 1410, 1423, 1466, 1489, 1512, 1545, 1588, 1641]], 244),
  (244, [zf_ald 1, zf_ald 0, zf_ild 3, zf_ic 1, zf_add, zf_aldI 100, zf_ald 0, zf_ild 3, zf_ic 2, zf_add, zf_aldI 100, zf_ald 0, zf_ild 3, zf_ic 3, zf_add, zf_aldI 100, zf_ald 0, zf_ild 3, zf_ic 4, zf_add, zf_aldI 100, zf_ald 0, zf_ild 3, zf_ic 5, zf_add, zf_aldI 100, zf_inv h 11 20 5, zf_ald 2, zf_ald 0, zf_ild 3, zf_ic 1, zf_add, zf_aldI 100, zf_ald 0, zf_ild 3, zf_ic 2, zf_add, zf_aldI 100, zf_ald 0, zf_ild 3, zf_ic 3, zf_add, zf_aldI 100, zf_ald 0, zf_ild 3, zf_ic 4, zf_add, zf_aldI 100, zf_ald 0, zf_ild 3, zf_ic 5, zf_add, zf_aldI 100, zf_inv h 21 21 5, zf_ic2 .eq 1654, zf_ic 0, zf_retz], 307),
  (307, [zf_ald 1, zf_ald 0, zf_ild 3, zf_ic 1, zf_add, zf_aldI 100, zf_inv h 11 15 1, zf_ald 2, zf_ald 0, zf_ild 3, zf_ic 1, zf_add, zf_aldI 100, zf_inv h 21 16 1, zf_ic2 .eq 1654, zf_ic 0, zf_retz], 330),
  (330, [zf_ald 1, zf_ald 0, zf_ild 3, zf_ic 1, zf_add, zf_aldI 100, zf_inv h 11 47 1, zf_ald 2, zf_ald 0, zf_ild 3, zf_ic 1, zf_add, zf_aldI 100, zf_inv h 21 70 1, zf_ic2 .eq 1654, zf_ic 0, zf_retz], 353),
  (353, [zf_ald 1, zf_ald 0, zf_ild 3, zf_ic 1, zf_add, zf_aldI 100, zf_inv h 11 26 1, zf_ald 2, zf_ald 0, zf_ild 3, zf_ic 1, zf_add, zf_aldI 100, zf_inv h 21 33 1, zf_ic2 .eq 1654, zf_ic 0, zf_retz], 376),
  (376, [zf_ald 1, zf_ald 0, zf_ild 3, zf_ic 1, zf_add, zf_aldI 100, zf_ald 0, zf_ild 3, zf_ic 2, zf_add, zf_aldI 100, zf_inv h 11 31 2, zf_ald 2, zf_ald 0, zf_ild 3, zf_ic 1, zf_add, zf_aldI 100, zf_ald 0, zf_ild 3, zf_ic 2, zf_add, zf_aldI 100, zf_inv h 21 41 2, zf_lcmp, zf_if .eq 1654, zf_ic 0, zf_retz], 410),
  (410, [zf_ald 1, zf_ald 0, zf_ild 3, zf_ic 1, zf_add, zf_aldI 100, zf_inv h 11 58 1, zf_ald 2, zf_ald 0, zf_ild 3, zf_ic 1, zf_add, zf_aldI 100, zf_inv h 21 80 1, zf_ic2 .eq 1654, zf_ic 0, zf_retz], 433),
  (433, [zf_ald 1, zf_inv h 11 30 0, zf_ald 2, zf_inv h 21 39 0, zf_ic2 .eq 1654, zf_ic 0, zf_retz], 446),
  (446, [zf_ald 1, zf_ald 0, zf_ild 3, zf_ic 1, zf_add, zf_aldI 100, zf_ald 0, zf_ild 3, zf_ic 2, zf_add, zf_aldI 100, zf_inv h 11 29 2, zf_ald 2, zf_ald 0, zf_ild 3, zf_ic 1, zf_add, zf_aldI 100, zf_ald 0, zf_ild 3, zf_ic 2, zf_add, zf_aldI 100, zf_inv h 21 38 2, zf_ic2 .eq 1654, zf_ic 0, zf_retz], 479),
  (479, [zf_ald 1, zf_ald 0, zf_ild 3, zf_ic 1, zf_add, zf_aldI 100, zf_inv h 11 28 1, zf_ald 2, zf_ald 0, zf_ild 3, zf_ic 1, zf_add, zf_aldI 100, zf_inv h 21 37 1, zf_ic2 .eq 1654, zf_ic 0, zf_retz], 502),
  (502, [zf_ald 1, zf_ald 0, zf_ild 3, zf_ic 1, zf_add, zf_aldI 100, zf_inv h 11 37 1, zf_ald 2, zf_ald 0, zf_ild 3, zf_ic 1, zf_add, zf_aldI 100, zf_inv h 21 50 1, zf_ic2 .eq 1654, zf_ic 0, zf_retz], 525),
  (525, [zf_ald 1, zf_ald 0, zf_ild 3, zf_ic 1, zf_add, zf_aldI 100, zf_ald 0, zf_ild 3, zf_ic 2, zf_add, zf_aldI 100, zf_ald 0, zf_ild 3, zf_ic 3, zf_add, zf_aldI 100, zf_ald 0, zf_ild 3, zf_ic 4, zf_add, zf_aldI 100, zf_i2l, zf_ic 32, zf_lsh zlshl, zf_ald 0, zf_ild 3, zf_ic 5, zf_add, zf_aldI 100, zf_i2l, zf_lc 4294967295, zf_lbit zland, zf_lbit zlor, zf_inv h 11 5 4, zf_ald 2, zf_ald 0, zf_ild 3, zf_ic 1, zf_add, zf_aldI 100, zf_ald 0, zf_ild 3, zf_ic 2, zf_add, zf_aldI 100, zf_ald 0, zf_ild 3, zf_ic 3, zf_add, zf_aldI 100, zf_ald 0, zf_ild 3, zf_ic 4, zf_add, zf_aldI 100, zf_i2l, zf_ic 32, zf_lsh zlshl, zf_ald 0, zf_ild 3, zf_ic 5, zf_add, zf_aldI 100, zf_i2l, zf_lc 4294967295, zf_lbit zland, zf_lbit zlor, zf_inv h 21 4 4, zf_ic2 .eq 1654, zf_ic 0, zf_retz], 608),
  (608, [zf_ald 1, zf_ald 0, zf_ild 3, zf_ic 1, zf_add, zf_aldI 100, zf_ald 0, zf_ild 3, zf_ic 2, zf_add, zf_aldI 100, zf_ald 0, zf_ild 3, zf_ic 3, zf_add, zf_aldI 100, zf_ald 0, zf_ild 3, zf_ic 4, zf_add, zf_aldI 100, zf_ald 0, zf_ild 3, zf_ic 5, zf_add, zf_aldI 100, zf_inv h 11 35 5, zf_ald 2, zf_ald 0, zf_ild 3, zf_ic 1, zf_add, zf_aldI 100, zf_ald 0, zf_ild 3, zf_ic 2, zf_add, zf_aldI 100, zf_ald 0, zf_ild 3, zf_ic 3, zf_add, zf_aldI 100, zf_ald 0, zf_ild 3, zf_ic 4, zf_add, zf_aldI 100, zf_ald 0, zf_ild 3, zf_ic 5, zf_add, zf_aldI 100, zf_inv h 21 46 5, zf_ic2 .eq 1654, zf_ic 0, zf_retz], 671),
  (671, [zf_ald 1, zf_ald 0, zf_ild 3, zf_ic 1, zf_add, zf_aldI 100, zf_ald 0, zf_ild 3, zf_ic 2, zf_add, zf_aldI 100, zf_ald 0, zf_ild 3, zf_ic 3, zf_add, zf_aldI 100, zf_inv h 11 3 3, zf_ald 2, zf_ald 0, zf_ild 3, zf_ic 1, zf_add, zf_aldI 100, zf_ald 0, zf_ild 3, zf_ic 2, zf_add, zf_aldI 100, zf_ald 0, zf_ild 3, zf_ic 3, zf_add, zf_aldI 100, zf_inv h 21 2 3, zf_ic2 .eq 1654, zf_ic 0, zf_retz], 714),
  (714, [zf_ald 1, zf_ald 0, zf_ild 3, zf_ic 1, zf_add, zf_aldI 100, zf_ald 0, zf_ild 3, zf_ic 2, zf_add, zf_aldI 100, zf_ald 0, zf_ild 3, zf_ic 3, zf_add, zf_aldI 100, zf_ald 0, zf_ild 3, zf_ic 4, zf_add, zf_aldI 100, zf_inv h 11 8 4, zf_ald 2, zf_ald 0, zf_ild 3, zf_ic 1, zf_add, zf_aldI 100, zf_ald 0, zf_ild 3, zf_ic 2, zf_add, zf_aldI 100, zf_ald 0, zf_ild 3, zf_ic 3, zf_add, zf_aldI 100, zf_ald 0, zf_ild 3, zf_ic 4, zf_add, zf_aldI 100, zf_inv h 21 7 4, zf_ic2 .eq 1654, zf_ic 0, zf_retz], 767),
  (767, [zf_ald 1, zf_ald 0, zf_ild 3, zf_ic 1, zf_add, zf_aldI 100, zf_inv h 11 41 1, zf_ald 2, zf_ald 0, zf_ild 3, zf_ic 1, zf_add, zf_aldI 100, zf_inv h 21 55 1, zf_ic2 .eq 1654, zf_ic 0, zf_retz], 790),
  (790, [zf_ald 1, zf_ald 0, zf_ild 3, zf_ic 1, zf_add, zf_aldI 100, zf_ald 0, zf_ild 3, zf_ic 2, zf_add, zf_aldI 100, zf_ald 0, zf_ild 3, zf_ic 3, zf_add, zf_aldI 100, zf_inv h 11 55 3, zf_ald 2, zf_ald 0, zf_ild 3, zf_ic 1, zf_add, zf_aldI 100, zf_ald 0, zf_ild 3, zf_ic 2, zf_add, zf_aldI 100, zf_ald 0, zf_ild 3, zf_ic 3, zf_add, zf_aldI 100, zf_inv h 21 77 3, zf_ic2 .eq 1654, zf_ic 0, zf_retz], 833),
  (833, [zf_ald 1, zf_ald 0, zf_ild 3, zf_ic 1, zf_add, zf_aldI 100, zf_inv h 11 9 1, zf_ald 2, zf_ald 0, zf_ild 3, zf_ic 1, zf_add, zf_aldI 100, zf_inv h 21 8 1, zf_lcmp, zf_if .eq 1654, zf_ic 0, zf_retz], 857),
  (857, [zf_ald 1, zf_ald 0, zf_ild 3, zf_ic 1, zf_add, zf_aldI 100, zf_ald 0, zf_ild 3, zf_ic 2, zf_add, zf_aldI 100, zf_inv h 11 4 2, zf_ald 2, zf_ald 0, zf_ild 3, zf_ic 1, zf_add, zf_aldI 100, zf_ald 0, zf_ild 3, zf_ic 2, zf_add, zf_aldI 100, zf_inv h 21 3 2, zf_ic2 .eq 1654, zf_ic 0, zf_retz], 890),
  (890, [zf_ald 1, zf_ald 0, zf_ild 3, zf_ic 1, zf_add, zf_aldI 100, zf_ald 0, zf_ild 3, zf_ic 2, zf_add, zf_aldI 100, zf_ald 0, zf_ild 3, zf_ic 3, zf_add, zf_aldI 100, zf_ald 0, zf_ild 3, zf_ic 4, zf_add, zf_aldI 100, zf_inv h 11 42 4, zf_ald 2, zf_ald 0, zf_ild 3, zf_ic 1, zf_add, zf_aldI 100, zf_ald 0, zf_ild 3, zf_ic 2, zf_add, zf_aldI 100, zf_ald 0, zf_ild 3, zf_ic 3, zf_add, zf_aldI 100, zf_ald 0, zf_ild 3, zf_ic 4, zf_add, zf_aldI 100, zf_inv h 21 58 4, zf_ic2 .eq 1654, zf_ic 0, zf_retz], 943),
  (943, [zf_ald 1, zf_inv h 11 11 0, zf_ald 2, zf_inv h 21 10 0, zf_ic2 .eq 1654, zf_ic 0, zf_retz], 956),
  (956, [zf_ald 1, zf_inv h 11 54 0, zf_ald 2, zf_inv h 21 76 0, zf_ic2 .eq 1654, zf_ic 0, zf_retz], 969),
  (969, [zf_ald 1, zf_ald 0, zf_ild 3, zf_ic 1, zf_add, zf_aldI 100, zf_ald 0, zf_ild 3, zf_ic 2, zf_add, zf_aldI 100, zf_inv h 11 53 2, zf_ald 2, zf_ald 0, zf_ild 3, zf_ic 1, zf_add, zf_aldI 100, zf_ald 0, zf_ild 3, zf_ic 2, zf_add, zf_aldI 100, zf_inv h 21 75 2, zf_ic2 .eq 1654, zf_ic 0, zf_retz], 1002),
  (1002, [zf_ald 1, zf_ald 0, zf_ild 3, zf_ic 1, zf_add, zf_aldI 100, zf_inv h 11 7 1, zf_ald 2, zf_ald 0, zf_ild 3, zf_ic 1, zf_add, zf_aldI 100, zf_inv h 21 6 1, zf_ic2 .eq 1654, zf_ic 0, zf_retz], 1025),
  (1025, [zf_ald 1, zf_ald 0, zf_ild 3, zf_ic 1, zf_add, zf_aldI 100, zf_ald 0, zf_ild 3, zf_ic 2, zf_add, zf_aldI 100, zf_ald 0, zf_ild 3, zf_ic 3, zf_add, zf_aldI 100, zf_inv h 11 0 3, zf_ald 2, zf_ald 0, zf_ild 3, zf_ic 1, zf_add, zf_aldI 100, zf_ald 0, zf_ild 3, zf_ic 2, zf_add, zf_aldI 100, zf_ald 0, zf_ild 3, zf_ic 3, zf_add, zf_aldI 100, zf_inv h 21 0 3, zf_ic2 .eq 1654, zf_ic 0, zf_retz], 1068),
  (1068, [zf_ald 1, zf_inv h 11 48 0, zf_ald 2, zf_inv h 21 71 0, zf_ic2 .eq 1654, zf_ic 0, zf_retz], 1081),
  (1081, [zf_ald 1, zf_inv h 11 17 0, zf_ald 2, zf_inv h 21 18 0, zf_ic2 .eq 1654, zf_ic 0, zf_retz], 1094),
  (1094, [zf_ald 1, zf_ald 0, zf_ild 3, zf_ic 1, zf_add, zf_aldI 100, zf_ald 0, zf_ild 3, zf_ic 2, zf_add, zf_aldI 100, zf_inv h 11 13 2, zf_ald 2, zf_ald 0, zf_ild 3, zf_ic 1, zf_add, zf_aldI 100, zf_ald 0, zf_ild 3, zf_ic 2, zf_add, zf_aldI 100, zf_inv h 21 14 2, zf_ic2 .eq 1654, zf_ic 0, zf_retz], 1127),
  (1127, [zf_ald 1, zf_ald 0, zf_ild 3, zf_ic 1, zf_add, zf_aldI 100, zf_inv h 11 39 1, zf_ald 2, zf_ald 0, zf_ild 3, zf_ic 1, zf_add, zf_aldI 100, zf_inv h 21 53 1, zf_ic2 .eq 1654, zf_ic 0, zf_retz], 1150),
  (1150, [zf_ald 1, zf_inv h 11 33 0, zf_ald 2, zf_inv h 21 44 0, zf_ic2 .eq 1654, zf_ic 0, zf_retz], 1163),
  (1163, [zf_ald 1, zf_inv h 11 18 0, zf_ald 2, zf_inv h 21 20 0, zf_ic2 .eq 1654, zf_ic 0, zf_retz], 1176),
  (1176, [zf_ald 1, zf_ald 0, zf_ild 3, zf_ic 1, zf_add, zf_aldI 100, zf_inv h 11 43 1, zf_ald 2, zf_ald 0, zf_ild 3, zf_ic 1, zf_add, zf_aldI 100, zf_inv h 21 59 1, zf_ic2 .eq 1654, zf_ic 0, zf_retz], 1199),
  (1199, [zf_ald 1, zf_ald 0, zf_ild 3, zf_ic 1, zf_add, zf_aldI 100, zf_inv h 11 32 1, zf_ald 2, zf_ald 0, zf_ild 3, zf_ic 1, zf_add, zf_aldI 100, zf_inv h 21 42 1, zf_lcmp, zf_if .eq 1654, zf_ic 0, zf_retz], 1223),
  (1223, [zf_ald 1, zf_ald 0, zf_ild 3, zf_ic 1, zf_add, zf_aldI 100, zf_inv h 11 16 1, zf_ald 2, zf_ald 0, zf_ild 3, zf_ic 1, zf_add, zf_aldI 100, zf_inv h 21 17 1, zf_ic2 .eq 1654, zf_ic 0, zf_retz], 1246),
  (1246, [zf_ald 1, zf_ald 0, zf_ild 3, zf_ic 1, zf_add, zf_aldI 100, zf_inv h 11 12 1, zf_ald 2, zf_ald 0, zf_ild 3, zf_ic 1, zf_add, zf_aldI 100, zf_inv h 21 11 1, zf_ic2 .eq 1654, zf_ic 0, zf_retz], 1269),
  (1269, [zf_ald 1, zf_inv h 11 44 0, zf_ald 2, zf_inv h 21 62 0, zf_ic2 .eq 1654, zf_ic 0, zf_retz], 1282),
  (1282, [zf_ald 1, zf_ald 0, zf_ild 3, zf_ic 1, zf_add, zf_aldI 100, zf_inv h 11 14 1, zf_ald 2, zf_ald 0, zf_ild 3, zf_ic 1, zf_add, zf_aldI 100, zf_inv h 21 15 1, zf_ic2 .eq 1654, zf_ic 0, zf_retz], 1305),
  (1305, [zf_ald 1, zf_inv h 11 50 0, zf_ald 2, zf_inv h 21 72 0, zf_ic2 .eq 1654, zf_ic 0, zf_retz], 1318),
  (1318, [zf_ald 1, zf_ald 0, zf_ild 3, zf_ic 1, zf_add, zf_aldI 100, zf_inv h 11 10 1, zf_ald 2, zf_ald 0, zf_ild 3, zf_ic 1, zf_add, zf_aldI 100, zf_inv h 21 9 1, zf_ic2 .eq 1654, zf_ic 0, zf_retz], 1341),
  (1341, [zf_ald 1, zf_inv h 11 38 0, zf_ald 2, zf_inv h 21 51 0, zf_ic2 .eq 1654, zf_ic 0, zf_retz], 1354),
  (1354, [zf_ald 1, zf_ald 0, zf_ild 3, zf_ic 1, zf_add, zf_aldI 100, zf_ald 0, zf_ild 3, zf_ic 2, zf_add, zf_aldI 100, zf_inv h 11 45 2, zf_ald 2, zf_ald 0, zf_ild 3, zf_ic 1, zf_add, zf_aldI 100, zf_ald 0, zf_ild 3, zf_ic 2, zf_add, zf_aldI 100, zf_inv h 21 63 2, zf_ic2 .eq 1654, zf_ic 0, zf_retz], 1387),
  (1387, [zf_ald 1, zf_ald 0, zf_ild 3, zf_ic 1, zf_add, zf_aldI 100, zf_inv h 11 27 1, zf_ald 2, zf_ald 0, zf_ild 3, zf_ic 1, zf_add, zf_aldI 100, zf_inv h 21 36 1, zf_ic2 .eq 1654, zf_ic 0, zf_retz], 1410),
  (1410, [zf_ald 1, zf_inv h 11 36 0, zf_ald 2, zf_inv h 21 49 0, zf_ic2 .eq 1654, zf_ic 0, zf_retz], 1423),
  (1423, [zf_ald 1, zf_ald 0, zf_ild 3, zf_ic 1, zf_add, zf_aldI 100, zf_ald 0, zf_ild 3, zf_ic 2, zf_add, zf_aldI 100, zf_ald 0, zf_ild 3, zf_ic 3, zf_add, zf_aldI 100, zf_inv h 11 2 3, zf_ald 2, zf_ald 0, zf_ild 3, zf_ic 1, zf_add, zf_aldI 100, zf_ald 0, zf_ild 3, zf_ic 2, zf_add, zf_aldI 100, zf_ald 0, zf_ild 3, zf_ic 3, zf_add, zf_aldI 100, zf_inv h 21 1 3, zf_ic2 .eq 1654, zf_ic 0, zf_retz], 1466),
  (1466, [zf_ald 1, zf_ald 0, zf_ild 3, zf_ic 1, zf_add, zf_aldI 100, zf_inv h 11 56 1, zf_ald 2, zf_ald 0, zf_ild 3, zf_ic 1, zf_add, zf_aldI 100, zf_inv h 21 79 1, zf_ic2 .eq 1654, zf_ic 0, zf_retz], 1489),
  (1489, [zf_ald 1, zf_ald 0, zf_ild 3, zf_ic 1, zf_add, zf_aldI 100, zf_inv h 11 46 1, zf_ald 2, zf_ald 0, zf_ild 3, zf_ic 1, zf_add, zf_aldI 100, zf_inv h 21 68 1, zf_ic2 .eq 1654, zf_ic 0, zf_retz], 1512),
  (1512, [zf_ald 1, zf_ald 0, zf_ild 3, zf_ic 1, zf_add, zf_aldI 100, zf_ald 0, zf_ild 3, zf_ic 2, zf_add, zf_aldI 100, zf_inv h 11 40 2, zf_ald 2, zf_ald 0, zf_ild 3, zf_ic 1, zf_add, zf_aldI 100, zf_ald 0, zf_ild 3, zf_ic 2, zf_add, zf_aldI 100, zf_inv h 21 54 2, zf_ic2 .eq 1654, zf_ic 0, zf_retz], 1545),
  (1545, [zf_ald 1, zf_ald 0, zf_ild 3, zf_ic 1, zf_add, zf_aldI 100, zf_ald 0, zf_ild 3, zf_ic 2, zf_add, zf_aldI 100, zf_ald 0, zf_ild 3, zf_ic 3, zf_add, zf_aldI 100, zf_inv h 11 34 3, zf_ald 2, zf_ald 0, zf_ild 3, zf_ic 1, zf_add, zf_aldI 100, zf_ald 0, zf_ild 3, zf_ic 2, zf_add, zf_aldI 100, zf_ald 0, zf_ild 3, zf_ic 3, zf_add, zf_aldI 100, zf_inv h 21 45 3, zf_ic2 .eq 1654, zf_ic 0, zf_retz], 1588),
  (1588, [zf_ald 1, zf_ald 0, zf_ild 3, zf_ic 1, zf_add, zf_aldI 100, zf_ald 0, zf_ild 3, zf_ic 2, zf_add, zf_aldI 100, zf_ald 0, zf_ild 3, zf_ic 3, zf_add, zf_aldI 100, zf_ald 0, zf_ild 3, zf_ic 4, zf_add, zf_aldI 100, zf_inv h 11 6 4, zf_ald 2, zf_ald 0, zf_ild 3, zf_ic 1, zf_add, zf_aldI 100, zf_ald 0, zf_ild 3, zf_ic 2, zf_add, zf_aldI 100, zf_ald 0, zf_ild 3, zf_ic 3, zf_add, zf_aldI 100, zf_ald 0, zf_ild 3, zf_ic 4, zf_add, zf_aldI 100, zf_inv h 21 5 4, zf_ic2 .eq 1654, zf_ic 0, zf_retz], 1641),
  (1641, [zf_ald 1, zf_inv h 11 52 0, zf_ald 2, zf_inv h 21 74 0, zf_ic2 .eq 1654, zf_ic 0, zf_retz], 1654),
  (1654, [zf_inc 3 6, zf_go 18], 1660),
  (1660, [zf_ic 1, zf_retz], 1662)]
theorem zT22_0 (h : Nat) : zTab h 22 0 4 (zt22_0 h) := zTab.mk (ret := (some .boolean)) (bl := xk22_0) (by decide +kernel) (by decide +kernel) rfl rfl
