/-! TABLES of what methods ask -/
def zt0_0 (h : Nat) : ZB := [(0, [zf_ald 0, zf_getI 0 0, zf_ic (-1), zf_ic2 .ne 11, zf_ic (-3), zf_reti], 11),
  (11, [zf_ald 0, zf_ild 1, zf_ild 2, zf_inv h 0 23 2, zf_ist 6, zf_ald 0, zf_ild 3, zf_ild 4, zf_ild 5, zf_inv h 0 5 3, zf_ist 7, zf_ild 6, zf_ic (-1), zf_ic2 .eq 42, zf_ild 7, zf_ic (-1), zf_ic2 .ne 45], 42),
  (42, [zf_ic (-2), zf_reti], 45),
  (45, [zf_ald 0, zf_ild 1, zf_ild 2, zf_inv h 0 9 2, zf_if .eq 57, zf_ic (-4), zf_reti], 57),
  (57, [zf_ald 0, zf_ild 6, zf_inv h 0 20 1, zf_ist 8, zf_ald 0, zf_getR 0 10, zf_inv h 7 2 0, zf_if .eq 91, zf_ild 8, zf_ic (-1), zf_ic2 .ne 93, zf_ald 0, zf_getR 0 11, zf_inv h 7 2 0, zf_if .ne 93], 91),
  (91, [zf_ic (-1), zf_reti], 93),
  (93, [zf_ild 8, zf_ic (-1), zf_ic2 .ne 122, zf_ald 0, zf_getR 0 11, zf_ild 6, zf_ic 0, zf_ic 0, zf_ic 0, zf_ic 0, zf_inv h 7 0 5, zf_ist 8, zf_ald 0, zf_getR 0 13, zf_ild 8, zf_ic 0, zf_astI], 122),
  (122, [zf_ald 0, zf_getR 0 6, zf_ild 7, zf_aldB, zf_if .ne 158, zf_ald 0, zf_getR 0 9, zf_ild 7, zf_aldI 100, zf_ic (-1), zf_ic2 .ne 158, zf_ald 0, zf_ild 7, zf_ild 8, zf_inv h 0 11 2, zf_if .ne 158, zf_ic 1, zf_go 159], 158),
  (158, [zf_ic 0], 159),
  (159, [zf_ist 9, zf_ild 9, zf_if .eq 180, zf_ald 0, zf_getR 0 11, zf_ild 8, zf_ic 1, zf_inv h 7 1 2, zf_ic 5, zf_ic2 .lt 183], 180),
  (180, [zf_ic (-4), zf_reti], 183),
  (183, [zf_ald 0, zf_ild 8, zf_inv h 0 15 1, zf_ald 0, zf_getR 0 10, zf_ild 1, zf_ild 2, zf_ild 7, zf_ild 8, zf_ic 0, zf_inv h 7 0 5, zf_ist 10, zf_ald 0, zf_getR 0 11, zf_ild 8, zf_ic 1, zf_ald 0, zf_getR 0 11, zf_ild 8, zf_ic 1, zf_inv h 7 1 2, zf_ic 1, zf_add, zf_inv h 7 4 3, zf_ald 0, zf_getR 0 9, zf_ild 7, zf_ild 10, zf_astI, zf_ald 0, zf_getR 0 8, zf_ild 7, zf_ild 8, zf_astI, zf_ild 10, zf_reti], 248)]
theorem zT0_0 (h : Nat) : zTab h 0 0 11 (zt0_0 h) := zTab.mk (ret := (some .int)) (bl := xk0_0) (by decide +kernel) (by decide +kernel) rfl rfl
def zt0_2 (h : Nat) : ZB := [(0, [zf_ald 0, zf_getI 0 0, zf_ic (-1), zf_ic2 .ne 11, zf_ic (-3), zf_reti], 11),
  (11, [zf_ald 0, zf_ild 1, zf_ild 2, zf_ild 3, zf_inv h 0 5 3, zf_ist 4, zf_ild 4, zf_ic (-1), zf_ic2 .ne 29, zf_ic (-2), zf_reti], 29),
  (29, [zf_ald 0, zf_getR 0 6, zf_ild 4, zf_aldB, zf_if .ne 50, zf_ald 0, zf_getR 0 8, zf_ild 4, zf_aldI 100, zf_ic (-1), zf_ic2 .eq 53], 50),
  (50, [zf_ic (-4), zf_reti], 53),
  (53, [zf_ald 0, zf_getR 0 6, zf_ild 4, zf_ic 1, zf_astB, zf_ic 0, zf_reti], 63)]
theorem zT0_2 (h : Nat) : zTab h 0 2 5 (zt0_2 h) := zTab.mk (ret := (some .int)) (bl := xk0_2) (by decide +kernel) (by decide +kernel) rfl rfl
def zt0_4 (h : Nat) : ZB := [(0, [zf_ild 1, zf_if .lt 15, zf_ild 1, zf_ald 0, zf_getR 0 11, zf_getI 7 2, zf_ic2 .lt 17], 15),
  (15, [zf_ic (-1), zf_reti], 17),
  (17, [zf_ic 0, zf_ist 3, zf_ic 0, zf_ist 4], 22),
  (22, [zf_ild 4, zf_ic 12, zf_ic2 .ge 63, zf_ald 0, zf_getR 0 11, zf_ild 1, zf_ic 5, zf_inv h 7 1 2, zf_ild 4, zf_bit zshr, zf_ic 1, zf_bit zand, zf_if .eq 57, zf_ild 3, zf_ild 2, zf_ic2 .ne 54, zf_ild 4, zf_reti], 54),
  (54, [zf_inc 3 1], 57),
  (57, [zf_inc 4 1, zf_go 22], 63),
  (63, [zf_ic (-1), zf_reti], 65)]
theorem zT0_4 (h : Nat) : zTab h 0 4 5 (zt0_4 h) := zTab.mk (ret := (some .int)) (bl := xk0_4) (by decide +kernel) (by decide +kernel) rfl rfl
def zt0_12 (h : Nat) : ZB := [(0, [zf_ald 0, zf_getR 0 11, zf_ild 1, zf_ic 2, zf_inv h 7 1 2, zf_ic 1, zf_ic2 .ne 17, zf_ic 1, zf_go 18], 17),
  (17, [zf_ic 0], 18),
  (18, [zf_retz], 19)]
theorem zT0_12 (h : Nat) : zTab h 0 12 2 (zt0_12 h) := zTab.mk (ret := (some .boolean)) (bl := xk0_12) (by decide +kernel) (by decide +kernel) rfl rfl
def zt0_28 (h : Nat) : ZB := [(0, [zf_ald 0, zf_ild 1, zf_inv h 0 12 1, zf_if .eq 17, zf_ald 0, zf_ild 1, zf_ild 2, zf_inv h 0 26 2, zf_go 18], 17),
  (17, [zf_ic (-1)], 18),
  (18, [zf_ist 4, zf_ild 4, zf_ic (-1), zf_ic2 .ne 28, zf_ic (-1), zf_reti], 28),
  (28, [zf_ild 3, zf_sw 77 0 2 [56, 63, 70]], 56),
  (56, [zf_ald 0, zf_ild 4, zf_inv h 0 14 1, zf_reti], 63),
  (63, [zf_ald 0, zf_ild 4, zf_inv h 0 6 1, zf_reti], 70),
  (70, [zf_ald 0, zf_ild 4, zf_inv h 0 21 1, zf_reti], 77),
  (77, [zf_ic (-1), zf_reti], 79)]
theorem zT0_28 (h : Nat) : zTab h 0 28 5 (zt0_28 h) := zTab.mk (ret := (some .int)) (bl := xk0_28) (by decide +kernel) (by decide +kernel) rfl rfl
def zt2_2 (h : Nat) : ZB := [(0, [zf_ald 0, zf_ild 1, zf_putI 2 1, zf_ald 0, zf_ic 0, zf_putI 2 0, zf_ald 0, zf_ic 0, zf_putI 2 2, zf_ald 0, zf_ic 0, zf_putI 2 10, zf_ret], 21)]
theorem zT2_2 (h : Nat) : zTab h 2 2 2 (zt2_2 h) := zTab.mk (ret := none) (bl := xk2_2) (by decide +kernel) (by decide +kernel) rfl rfl
def zt2_14 (h : Nat) : ZB := [(0, [zf_ild 1, zf_if .lt 16, zf_ild 1, zf_ald 0, zf_getI 2 0, zf_ic2 .ge 16, zf_ic 1, zf_go 17], 16),
  (16, [zf_ic 0], 17),
  (17, [zf_retz], 18)]
theorem zT2_14 (h : Nat) : zTab h 2 14 2 (zt2_14 h) := zTab.mk (ret := (some .boolean)) (bl := xk2_14) (by decide +kernel) (by decide +kernel) rfl rfl
def zt2_16 (h : Nat) : ZB := [(0, [zf_ald 0, zf_ild 1, zf_inv h 2 14 1, zf_if .eq 17, zf_ald 0, zf_getR 2 3, zf_ild 1, zf_aldI 100, zf_go 18], 17),
  (17, [zf_ic (-1)], 18),
  (18, [zf_reti], 19)]
theorem zT2_16 (h : Nat) : zTab h 2 16 2 (zt2_16 h) := zTab.mk (ret := (some .int)) (bl := xk2_16) (by decide +kernel) (by decide +kernel) rfl rfl
def zt2_18 (h : Nat) : ZB := [(0, [zf_ild 2, zf_if .lt 30, zf_ild 2, zf_ic 5, zf_ic2 .ge 30, zf_ald 0, zf_ild 1, zf_inv h 2 14 1, zf_if .eq 30, zf_ald 0, zf_getR 2 6, zf_ild 1, zf_ic 5, zf_mul, zf_ild 2, zf_add, zf_aldL, zf_go 31], 30),
  (30, [zf_lc 0], 31),
  (31, [zf_retl], 32)]
theorem zT2_18 (h : Nat) : zTab h 2 18 3 (zt2_18 h) := zTab.mk (ret := (some .long)) (bl := xk2_18) (by decide +kernel) (by decide +kernel) rfl rfl
def zt2_19 (h : Nat) : ZB := [(0, [zf_ild 1, zf_if .lt 21, zf_ild 1, zf_ald 0, zf_getI 2 12, zf_ic2 .ge 21, zf_ald 0, zf_getR 2 11, zf_ild 1, zf_aldI 104, zf_go 22], 21),
  (21, [zf_ic (-1)], 22),
  (22, [zf_reti], 23)]
theorem zT2_19 (h : Nat) : zTab h 2 19 2 (zt2_19 h) := zTab.mk (ret := (some .int)) (bl := xk2_19) (by decide +kernel) (by decide +kernel) rfl rfl
def zt3_30 (h : Nat) : ZB := [(0, [zf_ild 1, zf_if .lt 21, zf_ild 1, zf_ald 0, zf_getI 3 14, zf_ic2 .ge 21, zf_ald 0, zf_getR 3 11, zf_ild 1, zf_aldI 100, zf_go 24], 21),
  (21, [zf_ic (-1000)], 24),
  (24, [zf_reti], 25)]
theorem zT3_30 (h : Nat) : zTab h 3 30 2 (zt3_30 h) := zTab.mk (ret := (some .int)) (bl := xk3_30) (by decide +kernel) (by decide +kernel) rfl rfl
def zt3_31 (h : Nat) : ZB := [(0, [zf_ild 1, zf_if .lt 19, zf_ild 1, zf_ald 0, zf_getR 3 8, zf_getI 7 2, zf_ic2 .ge 19, zf_ic 1, zf_go 20], 19),
  (19, [zf_ic 0], 20),
  (20, [zf_ist 3, zf_ild 3, zf_if .eq 60, zf_ild 2, zf_if .lt 60, zf_ild 2, zf_ald 0, zf_ald 0, zf_getR 3 8, zf_ild 1, zf_ic 0, zf_inv h 7 1 2, zf_inv h 3 5 1, zf_ic2 .ge 60, zf_ald 0, zf_getR 3 10, zf_ild 1, zf_ic 16, zf_mul, zf_ild 2, zf_add, zf_aldI 100, zf_go 61], 60),
  (60, [zf_ic (-1)], 61),
  (61, [zf_reti], 62)]
theorem zT3_31 (h : Nat) : zTab h 3 31 4 (zt3_31 h) := zTab.mk (ret := (some .int)) (bl := xk3_31) (by decide +kernel) (by decide +kernel) rfl rfl
def zt3_34 (h : Nat) : ZB := [(0, [zf_ild 1, zf_if .lt 21, zf_ild 1, zf_ald 0, zf_getI 3 13, zf_ic2 .ge 21, zf_ald 0, zf_getR 3 12, zf_ild 1, zf_aldI 100, zf_go 22], 21),
  (21, [zf_ic (-1)], 22),
  (22, [zf_reti], 23)]
theorem zT3_34 (h : Nat) : zTab h 3 34 2 (zt3_34 h) := zTab.mk (ret := (some .int)) (bl := xk3_34) (by decide +kernel) (by decide +kernel) rfl rfl
def zt4_3 (h : Nat) : ZB := [(0, [zf_ild 1, zf_if .lt 12, zf_ild 1, zf_ald 0, zf_getI 4 10, zf_ic2 .lt 14], 12),
  (12, [zf_ic (-1), zf_reti], 14),
  (14, [zf_ald 0, zf_ald 0, zf_getR 4 9, zf_ild 1, zf_aldI 100, zf_putI 4 16, zf_ald 0, zf_ic 0, zf_putI 4 17, zf_ald 0, zf_ic 0, zf_inv h 4 10 1, zf_lst 2, zf_ald 0, zf_getI 4 17, zf_if .eq 45, zf_ic (-2), zf_reti], 45),
  (45, [zf_lld 2, zf_lc 0, zf_lcmp, zf_if .eq 55, zf_ic 1, zf_go 56], 55),
  (55, [zf_ic 0], 56),
  (56, [zf_reti], 57)]
theorem zT4_3 (h : Nat) : zTab h 4 3 4 (zt4_3 h) := zTab.mk (ret := (some .int)) (bl := xk4_3) (by decide +kernel) (by decide +kernel) rfl rfl
def zt4_5 (h : Nat) : ZB := [(0, [zf_ald 0, zf_ic 0, zf_putI 4 13, zf_ald 0, zf_ic (-1), zf_putI 4 14, zf_ald 0, zf_ic 0, zf_putI 4 15, zf_ret], 16)]
theorem zT4_5 (h : Nat) : zTab h 4 5 1 (zt4_5 h) := zTab.mk (ret := none) (bl := xk4_5) (by decide +kernel) (by decide +kernel) rfl rfl
def zt4_9 (h : Nat) : ZB := [(0, [zf_ild 1, zf_sw 43 0 2 [28, 33, 38]], 28),
  (28, [zf_ald 0, zf_getI 4 13, zf_reti], 33),
  (33, [zf_ald 0, zf_getI 4 14, zf_reti], 38),
  (38, [zf_ald 0, zf_getI 4 15, zf_reti], 43),
  (43, [zf_ic (-1), zf_reti], 45)]
theorem zT4_9 (h : Nat) : zTab h 4 9 2 (zt4_9 h) := zTab.mk (ret := (some .int)) (bl := xk4_9) (by decide +kernel) (by decide +kernel) rfl rfl
def zt4_13 (h : Nat) : ZB := [(0, [zf_ic 0, zf_ist 2], 2),
  (2, [zf_ild 2, zf_ald 0, zf_getR 4 1, zf_len, zf_ic2 .ge 24, zf_ald 0, zf_getR 4 1, zf_ild 2, zf_lc 0, zf_astL, zf_inc 2 1, zf_go 2], 24),
  (24, [zf_ald 0, zf_ic 0, zf_putI 4 8, zf_ald 0, zf_ic 0, zf_putI 4 10, zf_ald 0, zf_inv h 4 5 0, zf_ald 0, zf_ild 1, zf_putI 4 11, zf_ald 0, zf_ic 0, zf_putZ 4 12, zf_ald 0, zf_ic 0, zf_ic 400, zf_ic 0, zf_ic 0, zf_inv h 4 30 4, zf_ald 0, zf_getI 4 12, zf_if .eq 71, zf_ald 0, zf_inv h 4 5 0, zf_ic 2, zf_reti], 71),
  (71, [zf_ald 0, zf_getI 4 13, zf_if .ne 82, zf_ic 0, zf_go 83], 82),
  (82, [zf_ic 1], 83),
  (83, [zf_reti], 84)]
theorem zT4_13 (h : Nat) : zTab h 4 13 3 (zt4_13 h) := zTab.mk (ret := (some .int)) (bl := xk4_13) (by decide +kernel) (by decide +kernel) rfl rfl
def zt4_15 (h : Nat) : ZB := [(0, [zf_ald 0, zf_getI 4 12, zf_if .ne 18, zf_ald 0, zf_getI 4 13, zf_if .ne 18, zf_ic 1, zf_go 19], 18),
  (18, [zf_ic 0], 19),
  (19, [zf_retz], 20)]
theorem zT4_15 (h : Nat) : zTab h 4 15 1 (zt4_15 h) := zTab.mk (ret := (some .boolean)) (bl := xk4_15) (by decide +kernel) (by decide +kernel) rfl rfl
def zt4_27 (h : Nat) : ZB := [(0, [zf_ald 0, zf_ald 1, zf_putR 4 0, zf_ald 0, zf_ic 0, zf_putI 4 8, zf_ald 0, zf_ic 0, zf_putI 4 10, zf_ald 0, zf_inv h 4 5 0, zf_ret], 20)]
theorem zT4_27 (h : Nat) : zTab h 4 27 2 (zt4_27 h) := zTab.mk (ret := none) (bl := xk4_27) (by decide +kernel) (by decide +kernel) rfl rfl
def zt4_30 (h : Nat) : ZB := [(0, [zf_ild 1, zf_ist 5, zf_ic 0, zf_ist 6], 6),
  (6, [zf_ild 6, zf_ic 400, zf_ic2 .gt 83, zf_ild 5, zf_ild 2, zf_ic2 .ge 83, zf_ald 0, zf_inv h 4 15 0, zf_if .eq 83, zf_ild 4, zf_ic 10, zf_ic2 .ge 83, zf_ald 0, zf_getR 4 0, zf_ild 5, zf_inv h 8 10 1, zf_ist 7, zf_ild 7, zf_ic (-1), zf_ic2 .ne 52, zf_ret], 52),
  (52, [zf_ild 7, zf_ic 10, zf_ic2 .ne 66, zf_ild 5, zf_ic 1, zf_add, zf_go 75], 66),
  (66, [zf_ald 0, zf_ild 5, zf_ild 3, zf_ild 4, zf_inv h 4 38 3], 75),
  (75, [zf_ist 5, zf_inc 6 1, zf_go 6], 83),
  (83, [zf_ret], 84)]
theorem zT4_30 (h : Nat) : zTab h 4 30 8 (zt4_30 h) := zTab.mk (ret := none) (bl := xk4_30) (by decide +kernel) (by decide +kernel) rfl rfl
def zt5_4 (h : Nat) : ZB := [(0, [zf_ald 0, zf_ild 1, zf_ild 2, zf_inv h 5 10 2, zf_if .ne 11, zf_ic (-1), zf_reti], 11),
  (11, [zf_ald 0, zf_ic 0, zf_putI 5 13, zf_ald 0, zf_ild 1, zf_inv h 5 12 1, zf_ald 0, zf_ild 2, zf_ic 256, zf_div, zf_inv h 5 12 1, zf_ald 0, zf_ild 2, zf_ic 256, zf_rem, zf_inv h 5 12 1, zf_ald 0, zf_ald 0, zf_ild 1, zf_ild 2, zf_inv h 5 13 2, zf_inv h 5 12 1, zf_ic 0, zf_ist 5], 52),
  (52, [zf_ild 5, zf_ald 0, zf_ild 1, zf_ild 2, zf_inv h 5 13 2, zf_ic2 .ge 91, zf_ald 0, zf_ald 0, zf_getR 5 1, zf_ild 1, zf_ic 512, zf_mul, zf_ild 2, zf_ic 64, zf_mul, zf_add, zf_ild 5, zf_add, zf_aldI 104, zf_inv h 5 12 1, zf_inc 5 1, zf_go 52], 91),
  (91, [zf_ald 0, zf_ild 1, zf_ild 2, zf_inv h 5 2 2, zf_ild 3, zf_ic (-1), zf_ic2 .lt 110, zf_ild 3, zf_ald 0, zf_getI 5 13, zf_ic2 .lt 112], 110),
  (110, [zf_ic (-1), zf_reti], 112),
  (112, [zf_ild 3, zf_ic (-1), zf_ic2 .eq 132, zf_ald 0, zf_getR 5 12, zf_ild 3, zf_dup2, zf_aldI 100, zf_ild 4, zf_ic 255, zf_bit zand, zf_bit zxor, zf_astI], 132),
  (132, [zf_ald 0, zf_inv h 5 9 0, zf_if .eq 150, zf_ald 0, zf_inv h 5 20 0, zf_if .eq 150, zf_ic 1, zf_go 151], 150),
  (150, [zf_ic 0], 151),
  (151, [zf_reti], 152)]
theorem zT5_4 (h : Nat) : zTab h 5 4 6 (zt5_4 h) := zTab.mk (ret := (some .int)) (bl := xk5_4) (by decide +kernel) (by decide +kernel) rfl rfl
def zt5_10 (h : Nat) : ZB := [(0, [zf_ild 2, zf_if .lt 17, zf_ild 2, zf_ald 0, zf_ild 1, zf_inv h 5 14 1, zf_ic2 .ge 17, zf_ic 1, zf_go 18], 17),
  (17, [zf_ic 0], 18),
  (18, [zf_retz], 19)]
theorem zT5_10 (h : Nat) : zTab h 5 10 3 (zt5_10 h) := zTab.mk (ret := (some .boolean)) (bl := xk5_10) (by decide +kernel) (by decide +kernel) rfl rfl
def zt5_11 (h : Nat) : ZB := [(0, [zf_ild 1, zf_if .lt 16, zf_ild 1, zf_ald 0, zf_getI 5 0, zf_ic2 .ge 16, zf_ic 1, zf_go 17], 16),
  (16, [zf_ic 0], 17),
  (17, [zf_retz], 18)]
theorem zT5_11 (h : Nat) : zTab h 5 11 2 (zt5_11 h) := zTab.mk (ret := (some .boolean)) (bl := xk5_11) (by decide +kernel) (by decide +kernel) rfl rfl
def zt5_14 (h : Nat) : ZB := [(0, [zf_ald 0, zf_ild 1, zf_inv h 5 11 1, zf_if .eq 25, zf_ald 0, zf_getR 5 2, zf_ild 1, zf_aldI 100, zf_ic 64, zf_add, zf_ic 1, zf_sub, zf_ic 64, zf_div, zf_go 26], 25),
  (25, [zf_ic 0], 26),
  (26, [zf_reti], 27)]
theorem zT5_14 (h : Nat) : zTab h 5 14 2 (zt5_14 h) := zTab.mk (ret := (some .int)) (bl := xk5_14) (by decide +kernel) (by decide +kernel) rfl rfl
def zt5_18 (h : Nat) : ZB := [(0, [zf_ald 0, zf_ild 1, zf_inv h 5 11 1, zf_if .ne 11, zf_ic (-2), zf_reti], 11),
  (11, [zf_ald 0, zf_getI 5 6, zf_ic 60, zf_ic2 .lt 22, zf_ic (-1), zf_reti], 22),
  (22, [zf_ald 0, zf_getR 5 5, zf_ild 1, zf_aldB, zf_if .ne 39, zf_ald 0, zf_ild 1, zf_inv h 5 8 1, zf_if .ne 42], 39),
  (39, [zf_ic (-5), zf_reti], 42),
  (42, [zf_ald 0, zf_dup, zf_getI 5 6, zf_ic 1, zf_add, zf_putI 5 6, zf_ald 0, zf_getI 5 6, zf_ic 1, zf_sub, zf_reti], 59)]
theorem zT5_18 (h : Nat) : zTab h 5 18 2 (zt5_18 h) := zTab.mk (ret := (some .int)) (bl := xk5_18) (by decide +kernel) (by decide +kernel) rfl rfl
def zt5_19 (h : Nat) : ZB := [(0, [zf_ald 0, zf_ild 1, zf_ild 2, zf_inv h 5 10 2, zf_if .ne 11, zf_ic (-1), zf_reti], 11),
  (11, [zf_ald 0, zf_ic 0, zf_putI 5 13, zf_ald 0, zf_ild 1, zf_ild 2, zf_inv h 5 2 2, zf_ild 3, zf_if .lt 43, zf_ild 3, zf_ald 0, zf_getI 5 13, zf_ic2 .ge 43, zf_ald 0, zf_getR 5 12, zf_ild 3, zf_aldI 100, zf_go 44], 43),
  (43, [zf_ic (-1)], 44),
  (44, [zf_reti], 45)]
theorem zT5_19 (h : Nat) : zTab h 5 19 4 (zt5_19 h) := zTab.mk (ret := (some .int)) (bl := xk5_19) (by decide +kernel) (by decide +kernel) rfl rfl
def zt5_22 (h : Nat) : ZB := [(0, [zf_ald 0, zf_ild 1, zf_inv h 5 11 1, zf_if .eq 33, zf_ild 2, zf_if .lt 33, zf_ild 2, zf_ic 32, zf_ic2 .ge 33, zf_ald 0, zf_getR 5 3, zf_ald 0, zf_ild 1, zf_inv h 5 21 1, zf_ild 2, zf_add, zf_aldI 100, zf_go 34], 33),
  (33, [zf_ic (-1)], 34),
  (34, [zf_reti], 35)]
theorem zT5_22 (h : Nat) : zTab h 5 22 3 (zt5_22 h) := zTab.mk (ret := (some .int)) (bl := xk5_22) (by decide +kernel) (by decide +kernel) rfl rfl
def zt5_23 (h : Nat) : ZB := [(0, [zf_ild 2, zf_if .lt 23, zf_ild 2, zf_ic 16, zf_ic2 .ge 23, zf_ild 3, zf_if .lt 23, zf_ild 3, zf_ic 4, zf_ic2 .ge 23, zf_ic 1, zf_go 24], 23),
  (23, [zf_ic 0], 24),
  (24, [zf_ist 4, zf_ald 0, zf_ild 1, zf_inv h 5 11 1, zf_if .eq 39, zf_ild 4, zf_if .ne 42], 39),
  (39, [zf_ic (-2), zf_reti], 42),
  (42, [zf_ald 0, zf_getR 5 4, zf_ild 1, zf_ic 16, zf_mul, zf_ild 2, zf_add, zf_ild 3, zf_astI, zf_ald 0, zf_ild 1, zf_inv h 5 8 1, zf_if .eq 66, zf_ic 1, zf_go 67], 66),
  (66, [zf_ic 0], 67),
  (67, [zf_reti], 68)]
theorem zT5_23 (h : Nat) : zTab h 5 23 5 (zt5_23 h) := zTab.mk (ret := (some .int)) (bl := xk5_23) (by decide +kernel) (by decide +kernel) rfl rfl
def zt5_24 (h : Nat) : ZB := [(0, [zf_ald 0, zf_ild 1, zf_inv h 5 11 1, zf_if .ne 11, zf_ic (-2), zf_reti], 11),
  (11, [zf_ald 0, zf_getR 5 5, zf_ild 1, zf_aldB, zf_if .eq 23, zf_ic (-4), zf_reti], 23),
  (23, [zf_ald 0, zf_getR 5 5, zf_ild 1, zf_ic 1, zf_astB, zf_ic 0, zf_reti], 32)]
theorem zT5_24 (h : Nat) : zTab h 5 24 2 (zt5_24 h) := zTab.mk (ret := (some .int)) (bl := xk5_24) (by decide +kernel) (by decide +kernel) rfl rfl
def zt7_0 (h : Nat) : ZB := [(0, [zf_ald 0, zf_getI 7 2, zf_ald 0, zf_getI 7 1, zf_ic2 .lt 13, zf_ic (-1), zf_reti], 13),
  (13, [zf_ald 0, zf_getI 7 2, zf_ic 6, zf_mul, zf_ist 6, zf_ald 0, zf_getR 7 0, zf_ild 6, zf_ild 1, zf_astI, zf_ald 0, zf_getR 7 0, zf_ild 6, zf_ic 1, zf_add, zf_ild 2, zf_astI, zf_ald 0, zf_getR 7 0, zf_ild 6, zf_ic 2, zf_add, zf_ild 3, zf_astI, zf_ald 0, zf_getR 7 0, zf_ild 6, zf_ic 3, zf_add, zf_ild 4, zf_astI, zf_ald 0, zf_getR 7 0, zf_ild 6, zf_ic 4, zf_add, zf_ild 5, zf_astI, zf_ald 0, zf_getR 7 0, zf_ild 6, zf_ic 5, zf_add, zf_ic 0, zf_astI, zf_ald 0, zf_dup, zf_getI 7 2, zf_ic 1, zf_add, zf_putI 7 2, zf_ald 0, zf_getI 7 2, zf_ic 1, zf_sub, zf_reti], 99)]
theorem zT7_0 (h : Nat) : zTab h 7 0 7 (zt7_0 h) := zTab.mk (ret := (some .int)) (bl := xk7_0) (by decide +kernel) (by decide +kernel) rfl rfl
def zt7_1 (h : Nat) : ZB := [(0, [zf_ild 1, zf_if .lt 26, zf_ild 1, zf_ald 0, zf_getI 7 2, zf_ic2 .ge 26, zf_ild 2, zf_if .lt 26, zf_ild 2, zf_ic 6, zf_ic2 .ge 26, zf_ic 1, zf_go 27], 26),
  (26, [zf_ic 0], 27),
  (27, [zf_ist 3, zf_ild 3, zf_if .eq 46, zf_ald 0, zf_getR 7 0, zf_ild 1, zf_ic 6, zf_mul, zf_ild 2, zf_add, zf_aldI 100, zf_go 47], 46),
  (46, [zf_ic (-1)], 47),
  (47, [zf_reti], 48)]
theorem zT7_1 (h : Nat) : zTab h 7 1 4 (zt7_1 h) := zTab.mk (ret := (some .int)) (bl := xk7_1) (by decide +kernel) (by decide +kernel) rfl rfl
def zt7_2 (h : Nat) : ZB := [(0, [zf_ald 0, zf_getI 7 2, zf_ald 0, zf_getI 7 1, zf_ic2 .ge 15, zf_ic 1, zf_go 16], 15),
  (15, [zf_ic 0], 16),
  (16, [zf_retz], 17)]
theorem zT7_2 (h : Nat) : zTab h 7 2 1 (zt7_2 h) := zTab.mk (ret := (some .boolean)) (bl := xk7_2) (by decide +kernel) (by decide +kernel) rfl rfl
def zt8_3 (h : Nat) : ZB := [(0, [zf_ald 0, zf_ild 2, zf_ic 400, zf_min, zf_ald 1, zf_len, zf_min, zf_putI 8 1, zf_ic 0, zf_ist 3], 18),
  (18, [zf_ild 3, zf_ald 0, zf_getI 8 1, zf_ic2 .ge 41, zf_ald 0, zf_getR 8 0, zf_ild 3, zf_ald 1, zf_ild 3, zf_aldI 104, zf_astC, zf_inc 3 1, zf_go 18], 41),
  (41, [zf_ald 0, zf_ic 0, zf_putI 8 2, zf_ald 0, zf_ic (-1), zf_putI 8 3, zf_ald 0, zf_ic 0, zf_putI 8 4, zf_ic 0, zf_ist 3], 58),
  (58, [zf_ild 3, zf_ic 26, zf_ic2 .ge 77, zf_ald 0, zf_getR 8 6, zf_ild 3, zf_ic (-1), zf_astI, zf_inc 3 1, zf_go 58], 77),
  (77, [zf_ald 0, zf_ic 0, zf_ic (-1), zf_inv h 8 20 2, zf_ald 0, zf_getI 8 3, zf_reti], 88)]
theorem zT8_3 (h : Nat) : zTab h 8 3 4 (zt8_3 h) := zTab.mk (ret := (some .int)) (bl := xk8_3) (by decide +kernel) (by decide +kernel) rfl rfl
def zt8_10 (h : Nat) : ZB := [(0, [zf_ild 1, zf_if .lt 21, zf_ild 1, zf_ald 0, zf_getI 8 1, zf_ic2 .ge 21, zf_ald 0, zf_getR 8 0, zf_ild 1, zf_aldI 104, zf_go 22], 21),
  (21, [zf_ic (-1)], 22),
  (22, [zf_reti], 23)]
theorem zT8_10 (h : Nat) : zTab h 8 10 2 (zt8_10 h) := zTab.mk (ret := (some .int)) (bl := xk8_10) (by decide +kernel) (by decide +kernel) rfl rfl
def zt8_20 (h : Nat) : ZB := [(0, [zf_ic 0, zf_ist 3], 2),
  (2, [zf_ild 3, zf_ic 400, zf_ic2 .gt 66, zf_ald 0, zf_getI 8 3, zf_ic (-1), zf_ic2 .ne 66, zf_ald 0, zf_ald 0, zf_getI 8 2, zf_inv h 8 10 1, zf_ild 2, zf_ic2 .eq 66, zf_ald 0, zf_ald 0, zf_getI 8 2, zf_inv h 8 10 1, zf_ic 10, zf_ic2 .ne 55, zf_ald 0, zf_dup, zf_getI 8 2, zf_ic 1, zf_add, zf_putI 8 2, zf_go 60], 55),
  (55, [zf_ald 0, zf_ild 1, zf_inv h 8 19 1], 60),
  (60, [zf_inc 3 1, zf_go 2], 66),
  (66, [zf_ret], 67)]
theorem zT8_20 (h : Nat) : zTab h 8 20 4 (zt8_20 h) := zTab.mk (ret := none) (bl := xk8_20) (by decide +kernel) (by decide +kernel) rfl rfl
def zt9_0 (h : Nat) : ZB := [(0, [zf_ild 1, zf_ist 3, zf_ic 0, zf_ist 4], 5),
  (5, [zf_ild 4, zf_ic 200, zf_ic2 .ge 46, zf_ild 3, zf_ic (-1), zf_ic2 .eq 46, zf_ald 0, zf_getR 9 7, zf_getR 2 5, zf_ild 3, zf_aldI 100, zf_ild 2, zf_ic2 .le 46, zf_ald 0, zf_getR 9 7, zf_ild 3, zf_inv h 2 20 1, zf_ist 3, zf_inc 4 1, zf_go 5], 46),
  (46, [zf_ild 3, zf_reti], 48)]
theorem zT9_0 (h : Nat) : zTab h 9 0 5 (zt9_0 h) := zTab.mk (ret := (some .int)) (bl := xk9_0) (by decide +kernel) (by decide +kernel) rfl rfl
def zt9_2 (h : Nat) : ZB := [(0, [zf_ald 0, zf_getI 9 3, zf_ic (-1), zf_ic2 .ne 13, zf_ald 0, zf_ild 1, zf_putI 9 3], 13),
  (13, [zf_ret], 14)]
theorem zT9_2 (h : Nat) : zTab h 9 2 2 (zt9_2 h) := zTab.mk (ret := none) (bl := xk9_2) (by decide +kernel) (by decide +kernel) rfl rfl
def zt9_3 (h : Nat) : ZB := [(0, [zf_ald 0, zf_ald 1, zf_putR 9 0, zf_ald 0, zf_ild 2, zf_ald 1, zf_len, zf_min, zf_putI 9 1, zf_ald 0, zf_ic 0, zf_putI 9 2, zf_ald 0, zf_ic (-1), zf_putI 9 3, zf_ald 0, zf_ic 0, zf_putI 9 4, zf_ald 0, zf_ic 1, zf_putI 9 5, zf_ald 0, zf_ild 3, zf_if .ne 44, zf_ic 1, zf_go 45], 44),
  (44, [zf_ic 0], 45),
  (45, [zf_putZ 9 6, zf_ald 0, zf_ald 4, zf_putR 9 7, zf_ald 0, zf_getR 9 7, zf_ild 3, zf_inv h 2 2 1, zf_ald 0, zf_getI 9 6, zf_if .eq 76, zf_ald 0, zf_inv h 9 19 0, zf_go 80], 76),
  (76, [zf_ald 0, zf_inv h 9 17 0], 80),
  (80, [zf_ald 0, zf_getI 9 3, zf_reti], 85)]
theorem zT9_3 (h : Nat) : zTab h 9 3 5 (zt9_3 h) := zTab.mk (ret := (some .int)) (bl := xk9_3) (by decide +kernel) (by decide +kernel) rfl rfl
def zt9_14 (h : Nat) : ZB := [(0, [zf_ald 0, zf_getI 9 2, zf_ald 0, zf_getI 9 1, zf_ic2 .ge 23, zf_ald 0, zf_getR 9 0, zf_ald 0, zf_getI 9 2, zf_aldI 104, zf_go 24], 23),
  (23, [zf_ic (-1)], 24),
  (24, [zf_reti], 25)]
theorem zT9_14 (h : Nat) : zTab h 9 14 1 (zt9_14 h) := zTab.mk (ret := (some .int)) (bl := xk9_14) (by decide +kernel) (by decide +kernel) rfl rfl
def zt9_16 (h : Nat) : ZB := [(0, [zf_ild 1, zf_ic (-1), zf_ic2 .ne 9, zf_ic 0, zf_go 20], 9),
  (9, [zf_ald 0, zf_getR 9 7, zf_getR 2 5, zf_ild 1, zf_aldI 100, zf_ic 1, zf_add], 20),
  (20, [zf_ist 2, zf_ic 0, zf_ist 3], 23),
  (23, [zf_ild 3, zf_ild 2, zf_ic2 .ge 53, zf_ald 0, zf_inv h 9 14 0, zf_ic 46, zf_ic2 .ne 53, zf_ald 0, zf_dup, zf_getI 9 2, zf_ic 1, zf_add, zf_putI 9 2, zf_inc 3 1, zf_go 23], 53),
  (53, [zf_ild 1, zf_ic (-1), zf_ic2 .eq 72, zf_ild 3, zf_if .ne 72, zf_ald 0, zf_ald 0, zf_getI 9 2, zf_inv h 9 2 1, zf_ild 1, zf_reti], 72),
  (72, [zf_ald 0, zf_getI 9 2, zf_ist 4, zf_ald 0, zf_ald 0, zf_ild 1, zf_ild 3, zf_ic 1, zf_sub, zf_inv h 9 0 2, zf_inv h 9 20 1, zf_ist 5, zf_ild 5, zf_ic (-1), zf_ic2 .ne 100, zf_ild 1, zf_reti], 100),
  (100, [zf_ald 0, zf_getR 9 7, zf_ild 5, zf_inv h 2 16 1, zf_ic 9, zf_ic2 .ne 125, zf_ald 0, zf_ild 5, zf_ild 4, zf_ild 3, zf_inv h 9 9 3, zf_ild 1, zf_reti], 125),
  (125, [zf_ald 0, zf_ild 5, zf_inv h 9 23 1, zf_ald 0, zf_getI 9 3, zf_ic (-1), zf_ic2 .ne 156, zf_ald 0, zf_inv h 9 14 0, zf_ic 10, zf_ic2 .eq 156, zf_ald 0, zf_ald 0, zf_getI 9 2, zf_inv h 9 2 1], 156),
  (156, [zf_ald 0, zf_dup, zf_getI 9 2, zf_ic 1, zf_add, zf_putI 9 2, zf_ild 5, zf_reti], 169)]
theorem zT9_16 (h : Nat) : zTab h 9 16 6 (zt9_16 h) := zTab.mk (ret := (some .int)) (bl := xk9_16) (by decide +kernel) (by decide +kernel) rfl rfl
def zt9_17 (h : Nat) : ZB := [(0, [zf_ic (-1), zf_ist 1, zf_ic 0, zf_ist 2], 4),
  (4, [zf_ild 2, zf_ald 0, zf_getI 9 1, zf_ic2 .gt 47, zf_ald 0, zf_getI 9 3, zf_ic (-1), zf_ic2 .ne 47, zf_ild 2, zf_if .eq 35, zf_ald 0, zf_getI 9 2, zf_ald 0, zf_getI 9 1, zf_ic2 .ge 47], 35),
  (35, [zf_ald 0, zf_ild 1, zf_inv h 9 16 1, zf_ist 1, zf_inc 2 1, zf_go 4], 47),
  (47, [zf_ret], 48)]
theorem zT9_17 (h : Nat) : zTab h 9 17 3 (zt9_17 h) := zTab.mk (ret := none) (bl := xk9_17) (by decide +kernel) (by decide +kernel) rfl rfl
def zt9_19 (h : Nat) : ZB := [(0, [zf_ald 0, zf_inv h 9 25 0, zf_ald 0, zf_inv h 9 14 0, zf_ic 40, zf_ic2 .eq 21, zf_ald 0, zf_ald 0, zf_getI 9 2, zf_inv h 9 2 1], 21),
  (21, [zf_ic (-1), zf_ist 1, zf_ic 0, zf_ist 2], 25),
  (25, [zf_ild 2, zf_ald 0, zf_getI 9 1, zf_ic2 .gt 65, zf_ald 0, zf_getI 9 3, zf_ic (-1), zf_ic2 .ne 65, zf_ald 0, zf_ald 0, zf_ild 1, zf_inv h 9 18 1, zf_inv h 9 1 1, zf_ist 1, zf_ild 1, zf_ic (-1), zf_ic2 .ne 59, zf_go 65], 59),
  (59, [zf_inc 2 1, zf_go 25], 65),
  (65, [zf_ald 0, zf_inv h 9 25 0, zf_ald 0, zf_getI 9 2, zf_ald 0, zf_getI 9 1, zf_ic2 .ge 88, zf_ald 0, zf_ald 0, zf_getI 9 2, zf_inv h 9 2 1], 88),
  (88, [zf_ret], 89)]
theorem zT9_19 (h : Nat) : zTab h 9 19 3 (zt9_19 h) := zTab.mk (ret := none) (bl := xk9_19) (by decide +kernel) (by decide +kernel) rfl rfl
def zt9_20 (h : Nat) : ZB := [(0, [zf_ald 0, zf_getI 9 2, zf_ist 2], 5),
  (5, [zf_ald 0, zf_getI 9 2, zf_ald 0, zf_getI 9 1, zf_ic2 .ge 57, zf_ald 0, zf_getR 9 0, zf_ald 0, zf_getI 9 2, zf_aldI 104, zf_ic 97, zf_ic2 .lt 57, zf_ald 0, zf_getR 9 0, zf_ald 0, zf_getI 9 2, zf_aldI 104, zf_ic 122, zf_ic2 .gt 57, zf_ald 0, zf_dup, zf_getI 9 2, zf_ic 1, zf_add, zf_putI 9 2, zf_go 5], 57),
  (57, [zf_ald 0, zf_getI 9 2, zf_ild 2, zf_ic2 .ne 75, zf_ald 0, zf_ald 0, zf_getI 9 2, zf_inv h 9 2 1, zf_ic (-1), zf_reti], 75),
  (75, [zf_ald 0, zf_ild 2, zf_ald 0, zf_getI 9 2, zf_inv h 9 11 2, zf_ist 3, zf_ald 0, zf_ild 3, zf_ild 1, zf_inv h 9 13 2, zf_if .eq 107, zf_ald 0, zf_getR 9 7, zf_getI 2 0, zf_ic 200, zf_ic2 .lt 114], 107),
  (107, [zf_ald 0, zf_ild 2, zf_inv h 9 2 1, zf_ic (-1), zf_reti], 114),
  (114, [zf_ald 0, zf_getR 9 7, zf_ild 3, zf_ild 1, zf_inv h 2 0 2, zf_reti], 124)]
theorem zT9_20 (h : Nat) : zTab h 9 20 4 (zt9_20 h) := zTab.mk (ret := (some .int)) (bl := xk9_20) (by decide +kernel) (by decide +kernel) rfl rfl
def zt9_25 (h : Nat) : ZB := [(0, [zf_ald 0, zf_getI 9 2, zf_ald 0, zf_getI 9 1, zf_ic2 .ge 52, zf_ald 0, zf_getR 9 0, zf_ald 0, zf_getI 9 2, zf_aldI 104, zf_ic 32, zf_ic2 .eq 39, zf_ald 0, zf_getR 9 0, zf_ald 0, zf_getI 9 2, zf_aldI 104, zf_ic 10, zf_ic2 .ne 52], 39),
  (39, [zf_ald 0, zf_dup, zf_getI 9 2, zf_ic 1, zf_add, zf_putI 9 2, zf_go 0], 52),
  (52, [zf_ret], 53)]
theorem zT9_25 (h : Nat) : zTab h 9 25 1 (zt9_25 h) := zTab.mk (ret := none) (bl := xk9_25) (by decide +kernel) (by decide +kernel) rfl rfl
def zt10_1 (h : Nat) : ZB := [(0, [zf_ald 0, zf_getI 10 1, zf_ic 400, zf_ic2 .ge 30, zf_ald 0, zf_getR 10 0, zf_ald 0, zf_getI 10 1, zf_ild 1, zf_astI, zf_ald 0, zf_dup, zf_getI 10 1, zf_ic 1, zf_add, zf_putI 10 1], 30),
  (30, [zf_ret], 31)]
theorem zT10_1 (h : Nat) : zTab h 10 1 2 (zt10_1 h) := zTab.mk (ret := none) (bl := xk10_1) (by decide +kernel) (by decide +kernel) rfl rfl
def zt10_3 (h : Nat) : ZB := [(0, [zf_ald 0, zf_getI 10 10, zf_if .ne 19, zf_ald 0, zf_ild 1, zf_inv h 10 10 1, zf_if .eq 19, zf_ild 2, zf_if .ge 21], 19),
  (19, [zf_ic (-1), zf_reti], 21),
  (21, [zf_ild 2, zf_ist 3, zf_ic 0, zf_ist 4], 26),
  (26, [zf_ild 4, zf_ald 0, zf_getR 10 7, zf_ild 1, zf_aldI 100, zf_ic2 .ge 91, zf_ald 0, zf_getR 10 6, zf_ild 1, zf_ic 8, zf_mul, zf_ild 4, zf_add, zf_aldI 100, zf_ist 5, zf_ild 3, zf_ald 0, zf_getR 10 3, zf_ild 5, zf_aldI 100, zf_ic2 .ge 75, zf_ald 0, zf_getR 10 2, zf_ild 5, zf_ic 24, zf_mul, zf_ild 3, zf_add, zf_aldI 100, zf_reti], 75),
  (75, [zf_ild 3, zf_ald 0, zf_getR 10 3, zf_ild 5, zf_aldI 100, zf_sub, zf_ist 3, zf_inc 4 1, zf_go 26], 91),
  (91, [zf_ic (-1), zf_reti], 93)]
theorem zT10_3 (h : Nat) : zTab h 10 3 6 (zt10_3 h) := zTab.mk (ret := (some .int)) (bl := xk10_3) (by decide +kernel) (by decide +kernel) rfl rfl
def zt10_5 (h : Nat) : ZB := [(0, [zf_ald 0, zf_getI 10 10, zf_if .eq 10, zf_ic (-3), zf_reti], 10),
  (10, [zf_ald 0, zf_ild 1, zf_inv h 10 10 1, zf_if .ne 21, zf_ic (-2), zf_reti], 21),
  (21, [zf_ald 0, zf_getR 10 8, zf_ild 1, zf_aldB, zf_if .eq 33, zf_ic (-4), zf_reti], 33),
  (33, [zf_ald 0, zf_getI 10 1, zf_ic 2, zf_add, zf_ic 400, zf_ic2 .le 47, zf_ic (-1), zf_reti], 47),
  (47, [zf_ald 0, zf_ic 4, zf_ild 1, zf_inv h 10 15 2, zf_ic 0, zf_reti], 55)]
theorem zT10_5 (h : Nat) : zTab h 10 5 2 (zt10_5 h) := zTab.mk (ret := (some .int)) (bl := xk10_5) (by decide +kernel) (by decide +kernel) rfl rfl
def zt10_6 (h : Nat) : ZB := [(0, [zf_ic 0, zf_ist 1, zf_ic 0, zf_ist 2], 4),
  (4, [zf_ild 2, zf_ald 0, zf_getI 10 5, zf_ic2 .ge 45, zf_ald 0, zf_getR 10 4, zf_ild 2, zf_aldB, zf_if .eq 39, zf_ald 0, zf_ild 2, zf_inv h 10 11 1, zf_if .ne 39, zf_ald 0, zf_getR 10 4, zf_ild 2, zf_ic 0, zf_astB, zf_inc 1 1], 39),
  (39, [zf_inc 2 1, zf_go 4], 45),
  (45, [zf_ild 1, zf_reti], 47)]
theorem zT10_6 (h : Nat) : zTab h 10 6 3 (zt10_6 h) := zTab.mk (ret := (some .int)) (bl := xk10_6) (by decide +kernel) (by decide +kernel) rfl rfl
def zt10_10 (h : Nat) : ZB := [(0, [zf_ild 1, zf_if .lt 16, zf_ild 1, zf_ald 0, zf_getI 10 9, zf_ic2 .ge 16, zf_ic 1, zf_go 17], 16),
  (16, [zf_ic 0], 17),
  (17, [zf_retz], 18)]
theorem zT10_10 (h : Nat) : zTab h 10 10 2 (zt10_10 h) := zTab.mk (ret := (some .boolean)) (bl := xk10_10) (by decide +kernel) (by decide +kernel) rfl rfl
def zt10_12 (h : Nat) : ZB := [(0, [zf_ald 1, zf_getI 0 0, zf_ic (-1), zf_ic2 .eq 15, zf_ald 0, zf_getI 10 10, zf_if .eq 18], 15),
  (15, [zf_ic (-3), zf_reti], 18),
  (18, [zf_ald 0, zf_getR 10 7, zf_ald 0, zf_getI 10 9, zf_aldI 100, zf_ist 2, zf_ic 0, zf_ist 3, zf_ic 1, zf_ist 4, zf_ic 0, zf_ist 5], 36),
  (36, [zf_ild 5, zf_ald 1, zf_getR 0 11, zf_getI 7 2, zf_ic2 .ge 119, zf_ald 0, zf_ald 1, zf_ild 5, zf_inv h 10 8 2, zf_ist 6, zf_ild 6, zf_if .le 113, zf_ald 0, zf_ild 6, zf_inv h 10 20 1, zf_ic (-1), zf_ic2 .eq 76, zf_ic 1, zf_go 77], 76),
  (76, [zf_ic 0], 77),
  (77, [zf_ist 7, zf_inc 2 1, zf_ild 3, zf_ild 7, zf_if .eq 92, zf_ic 0, zf_go 93], 92),
  (92, [zf_ic 1], 93),
  (93, [zf_add, zf_ist 3, zf_ild 4, zf_ild 7, zf_if .eq 106, zf_ic 2, zf_go 110], 106),
  (106, [zf_ic 2, zf_ild 6, zf_add], 110),
  (110, [zf_add, zf_ist 4], 113),
  (113, [zf_inc 5 1, zf_go 36], 119),
  (119, [zf_ild 2, zf_ic 8, zf_ic2 .gt 149, zf_ald 0, zf_getI 10 5, zf_ild 3, zf_add, zf_ic 24, zf_ic2 .gt 149, zf_ald 0, zf_getI 10 9, zf_ic 12, zf_ic2 .ge 149, zf_ic 1, zf_go 150], 149),
  (149, [zf_ic 0], 150),
  (150, [zf_ist 5, zf_ild 5, zf_if .eq 170, zf_ald 0, zf_getI 10 1, zf_ild 4, zf_add, zf_ic 400, zf_ic2 .le 172], 170),
  (170, [zf_ic (-1), zf_reti], 172),
  (172, [zf_ic 0, zf_ist 6], 175),
  (175, [zf_ild 6, zf_ald 1, zf_getR 0 11, zf_getI 7 2, zf_ic2 .ge 213, zf_ald 0, zf_ald 1, zf_ild 6, zf_inv h 10 8 2, zf_ist 7, zf_ild 7, zf_if .le 207, zf_ald 0, zf_ild 7, zf_inv h 10 16 1], 207),
  (207, [zf_inc 6 1, zf_go 175], 213),
  (213, [zf_ald 0, zf_ic 3, zf_ic (-1), zf_inv h 10 15 2, zf_ald 0, zf_getI 10 9, zf_ic 1, zf_sub, zf_reti], 226)]
theorem zT10_12 (h : Nat) : zTab h 10 12 8 (zt10_12 h) := zTab.mk (ret := (some .int)) (bl := xk10_12) (by decide +kernel) (by decide +kernel) rfl rfl
def zt10_13 (h : Nat) : ZB := [(0, [zf_ald 0, zf_getI 10 10, zf_if .eq 10, zf_ic (-3), zf_reti], 10),
  (10, [zf_ild 1, zf_if .lt 22, zf_ild 1, zf_ald 0, zf_getI 10 1, zf_ic2 .le 25], 22),
  (22, [zf_ic (-2), zf_reti], 25),
  (25, [zf_ald 0, zf_getI 10 11, zf_ic 16, zf_ic2 .lt 36, zf_ic (-1), zf_reti], 36),
  (36, [zf_ald 0, zf_dup, zf_getI 10 11, zf_ic 1, zf_add, zf_putI 10 11, zf_ald 0, zf_ic 1, zf_putZ 10 10, zf_ald 0, zf_ild 1, zf_putI 10 1, zf_ic 0, zf_reti], 58)]
theorem zT10_13 (h : Nat) : zTab h 10 13 2 (zt10_13 h) := zTab.mk (ret := (some .int)) (bl := xk10_13) (by decide +kernel) (by decide +kernel) rfl rfl
def zt10_14 (h : Nat) : ZB := [(0, [zf_ald 2, zf_getI 0 0, zf_ic (-1), zf_ic2 .eq 15, zf_ald 0, zf_getI 10 10, zf_if .eq 18], 15),
  (15, [zf_ic (-3), zf_reti], 18),
  (18, [zf_ald 0, zf_ild 1, zf_inv h 10 10 1, zf_if .ne 29, zf_ic (-2), zf_reti], 29),
  (29, [zf_ic 0, zf_ist 3, zf_ic 0, zf_ist 4], 34),
  (34, [zf_ild 4, zf_ic 192, zf_ic2 .ge 126, zf_ald 0, zf_ild 1, zf_ild 4, zf_ic 3, zf_add, zf_inv h 10 3 2, zf_ic (-1), zf_ic2 .eq 126, zf_ald 0, zf_ild 1, zf_ild 4, zf_ic 3, zf_add, zf_inv h 10 3 2, zf_ist 5, zf_ald 2, zf_ald 0, zf_ild 1, zf_ild 4, zf_inv h 10 3 2, zf_ald 0, zf_ild 1, zf_ild 4, zf_ic 1, zf_add, zf_inv h 10 3 2, zf_ald 0, zf_ild 1, zf_ild 4, zf_ic 2, zf_add, zf_inv h 10 3 2, zf_ild 5, zf_ic 16, zf_rem, zf_ild 5, zf_ic 16, zf_div, zf_inv h 0 0 5, zf_ist 6, zf_ild 3, zf_ild 6, zf_if .lt 117, zf_ic 1, zf_go 118], 117),
  (117, [zf_ic 0], 118),
  (118, [zf_add, zf_ist 3, zf_inc 4 4, zf_go 34], 126),
  (126, [zf_ild 3, zf_reti], 128)]
theorem zT10_14 (h : Nat) : zTab h 10 14 7 (zt10_14 h) := zTab.mk (ret := (some .int)) (bl := xk10_14) (by decide +kernel) (by decide +kernel) rfl rfl
def zt10_18 (h : Nat) : ZB := [(0, [zf_ald 0, zf_getI 10 10, zf_if .ne 10, zf_ic (-3), zf_reti], 10),
  (10, [zf_ald 0, zf_ic 0, zf_putZ 10 10, zf_ald 0, zf_ic 0, zf_putI 10 5, zf_ald 0, zf_ic 0, zf_putI 10 9, zf_ald 0, zf_getR 10 7, zf_ic 0, zf_ic 0, zf_astI, zf_ald 0, zf_getR 10 8, zf_ic 0, zf_ic 0, zf_astB, zf_ic 0, zf_ist 1, zf_ic 0, zf_ist 2, zf_ic 0, zf_ist 3], 45),
  (45, [zf_ild 3, zf_ic 400, zf_ic2 .gt 71, zf_ild 2, zf_ic (-1), zf_ic2 .eq 71, zf_ild 2, zf_ist 1, zf_ald 0, zf_ild 1, zf_inv h 10 19 1, zf_ist 2, zf_inc 3 1, zf_go 45], 71),
  (71, [zf_ald 0, zf_ild 1, zf_putI 10 1, zf_ald 0, zf_getI 10 9, zf_reti], 81)]
theorem zT10_18 (h : Nat) : zTab h 10 18 4 (zt10_18 h) := zTab.mk (ret := (some .int)) (bl := xk10_18) (by decide +kernel) (by decide +kernel) rfl rfl
def zt10_21 (h : Nat) : ZB := [(0, [zf_ald 0, zf_getI 10 10, zf_if .eq 10, zf_ic (-3), zf_reti], 10),
  (10, [zf_ald 0, zf_getI 10 1, zf_ic 1, zf_add, zf_ic 400, zf_ic2 .le 24, zf_ic (-1), zf_reti], 24),
  (24, [zf_ald 0, zf_ic 5, zf_inv h 10 1 1, zf_ald 0, zf_inv h 10 6 0, zf_reti], 34)]
theorem zT10_21 (h : Nat) : zTab h 10 21 1 (zt10_21 h) := zTab.mk (ret := (some .int)) (bl := xk10_21) (by decide +kernel) (by decide +kernel) rfl rfl
def zt11_0 (h : Nat) : ZB := [(0, [zf_ald 0, zf_getI 11 14, zf_if .ne 11, zf_ic (-1), zf_go 21], 11),
  (11, [zf_ald 0, zf_getR 11 12, zf_ild 1, zf_ild 2, zf_ild 3, zf_inv h 1 6 3], 21),
  (21, [zf_reti], 22)]
theorem zT11_0 (h : Nat) : zTab h 11 0 4 (zt11_0 h) := zTab.mk (ret := (some .int)) (bl := xk11_0) (by decide +kernel) (by decide +kernel) rfl rfl
def zt11_1 (h : Nat) : ZB := [(0, [zf_ald 0, zf_ild 1, zf_if .ge 10, zf_ild 1, zf_neg, zf_go 11], 10),
  (10, [zf_ic 0], 11),
  (11, [zf_putI 11 3, zf_ild 1, zf_if .ge 22, zf_ic (-1), zf_go 23], 22),
  (22, [zf_ild 1], 23),
  (23, [zf_reti], 24)]
theorem zT11_1 (h : Nat) : zTab h 11 1 2 (zt11_1 h) := zTab.mk (ret := (some .int)) (bl := xk11_1) (by decide +kernel) (by decide +kernel) rfl rfl
def zt11_2 (h : Nat) : ZB := [(0, [zf_ald 0, zf_ald 0, zf_getR 11 19, zf_ild 1, zf_ild 2, zf_ild 3, zf_inv h 5 23 3, zf_inv h 11 1 1, zf_reti], 15)]
theorem zT11_2 (h : Nat) : zTab h 11 2 4 (zt11_2 h) := zTab.mk (ret := (some .int)) (bl := xk11_2) (by decide +kernel) (by decide +kernel) rfl rfl
def zt11_3 (h : Nat) : ZB := [(0, [zf_ald 0, zf_ald 0, zf_getR 11 9, zf_ild 1, zf_ild 2, zf_ild 3, zf_inv h 0 2 3, zf_inv h 11 22 1, zf_retz], 15)]
theorem zT11_3 (h : Nat) : zTab h 11 3 4 (zt11_3 h) := zTab.mk (ret := (some .boolean)) (bl := xk11_3) (by decide +kernel) (by decide +kernel) rfl rfl
def zt11_4 (h : Nat) : ZB := [(0, [zf_ald 0, zf_getR 11 9, zf_ild 1, zf_ild 2, zf_inv h 0 4 2, zf_reti], 10)]
theorem zT11_4 (h : Nat) : zTab h 11 4 3 (zt11_4 h) := zTab.mk (ret := (some .int)) (bl := xk11_4) (by decide +kernel) (by decide +kernel) rfl rfl
def zt11_5 (h : Nat) : ZB := [(0, [zf_ald 0, zf_getR 11 8, zf_getI 3 15, zf_if .ne 17, zf_ald 0, zf_ic (-3), zf_inv h 11 1 1, zf_reti], 17),
  (17, [zf_ald 0, zf_getR 11 9, zf_getI 0 0, zf_ic 1, zf_add, zf_ic 6, zf_ic2 .lt 37, zf_ald 0, zf_ic (-1), zf_inv h 11 1 1, zf_reti], 37),
  (37, [zf_ald 0, zf_getR 11 9, zf_ild 1, zf_ic 16, zf_inst h 11 57 2, zf_ild 2, zf_ic 16, zf_inst h 11 57 2, zf_ild 3, zf_ic 4, zf_inst h 11 57 2, zf_lld 4, zf_inv h 0 3 4, zf_ald 0, zf_getR 11 9, zf_ald 0, zf_getR 11 8, zf_inv h 0 25 1, zf_ald 0, zf_ald 0, zf_getR 11 9, zf_getI 0 0, zf_inv h 11 1 1, zf_reti], 86)]
theorem zT11_5 (h : Nat) : zTab h 11 5 6 (zt11_5 h) := zTab.mk (ret := (some .int)) (bl := xk11_5) (by decide +kernel) (by decide +kernel) rfl rfl
def zt11_6 (h : Nat) : ZB := [(0, [zf_ald 0, zf_getR 11 19, zf_ild 1, zf_ild 2, zf_ild 3, zf_ild 4, zf_inv h 5 4 4, zf_reti], 13)]
theorem zT11_6 (h : Nat) : zTab h 11 6 5 (zt11_6 h) := zTab.mk (ret := (some .int)) (bl := xk11_6) (by decide +kernel) (by decide +kernel) rfl rfl
def zt11_7 (h : Nat) : ZB := [(0, [zf_ald 0, zf_getI 11 14, zf_if .ne 11, zf_ic (-1), zf_go 19], 11),
  (11, [zf_ald 0, zf_getR 11 12, zf_ild 1, zf_inv h 1 8 1], 19),
  (19, [zf_reti], 20)]
theorem zT11_7 (h : Nat) : zTab h 11 7 2 (zt11_7 h) := zTab.mk (ret := (some .int)) (bl := xk11_7) (by decide +kernel) (by decide +kernel) rfl rfl
def zt11_8 (h : Nat) : ZB := [(0, [zf_ald 0, zf_getR 11 9, zf_getI 0 0, zf_ic (-1), zf_ic2 .ne 18, zf_ald 0, zf_ic (-3), zf_inv h 11 22 1, zf_retz], 18),
  (18, [zf_ild 2, zf_inst h 11 25 1, zf_if .eq 44, zf_ild 3, zf_inst h 11 25 1, zf_if .eq 44, zf_ild 4, zf_inst h 11 25 1, zf_if .eq 44, zf_ic 1, zf_go 45], 44),
  (44, [zf_ic 0], 45),
  (45, [zf_ist 5, zf_ild 1, zf_if .lt 67, zf_ild 1, zf_ald 0, zf_getR 11 9, zf_getI 0 3, zf_ic2 .ge 67, zf_ild 5, zf_if .ne 74], 67),
  (67, [zf_ald 0, zf_ic (-2), zf_inv h 11 22 1, zf_retz], 74),
  (74, [zf_ald 0, zf_getR 11 9, zf_ild 1, zf_ild 2, zf_ild 3, zf_ild 4, zf_inv h 0 22 4, zf_ald 0, zf_ic 0, zf_inv h 11 22 1, zf_retz], 92)]
theorem zT11_8 (h : Nat) : zTab h 11 8 6 (zt11_8 h) := zTab.mk (ret := (some .boolean)) (bl := xk11_8) (by decide +kernel) (by decide +kernel) rfl rfl
def zt11_9 (h : Nat) : ZB := [(0, [zf_ald 0, zf_getR 11 9, zf_ild 1, zf_inv h 0 12 1, zf_if .eq 27, zf_ald 0, zf_getR 11 9, zf_getR 0 11, zf_ild 1, zf_ic 3, zf_inv h 7 1 2, zf_i2l, zf_go 30], 27),
  (27, [zf_lc (-1)], 30),
  (30, [zf_retl], 31)]
theorem zT11_9 (h : Nat) : zTab h 11 9 2 (zt11_9 h) := zTab.mk (ret := (some .long)) (bl := xk11_9) (by decide +kernel) (by decide +kernel) rfl rfl
def zt11_10 (h : Nat) : ZB := [(0, [zf_ald 0, zf_ald 0, zf_getR 11 18, zf_ild 1, zf_inv h 10 13 1, zf_inv h 11 22 1, zf_retz], 13)]
theorem zT11_10 (h : Nat) : zTab h 11 10 2 (zt11_10 h) := zTab.mk (ret := (some .boolean)) (bl := xk11_10) (by decide +kernel) (by decide +kernel) rfl rfl
def zt11_11 (h : Nat) : ZB := [(0, [zf_ald 0, zf_getR 11 9, zf_getI 0 0, zf_ic (-1), zf_ic2 .ne 18, zf_ald 0, zf_ic (-3), zf_inv h 11 1 1, zf_reti], 18),
  (18, [zf_ald 0, zf_getI 11 14, zf_ic 10, zf_ic2 .lt 33, zf_ald 0, zf_ic (-1), zf_inv h 11 1 1, zf_reti], 33),
  (33, [zf_ald 0, zf_getR 11 13, zf_ald 0, zf_getR 11 9, zf_ald 0, zf_getR 11 11, zf_inv h 1 37 2, zf_ald 0, zf_getR 11 13, zf_getI 1 2, zf_if .eq 64, zf_ald 0, zf_ic (-1), zf_inv h 11 1 1, zf_reti], 64),
  (64, [zf_ald 0, zf_dup, zf_getI 11 14, zf_ic 1, zf_add, zf_putI 11 14, zf_ald 0, zf_getR 11 12, zf_ast 1, zf_ald 0, zf_ald 0, zf_getR 11 13, zf_putR 11 12, zf_ald 0, zf_ald 1, zf_putR 11 13, zf_ald 0, zf_ald 0, zf_getR 11 12, zf_getR 1 1, zf_getI 7 2, zf_inv h 11 1 1, zf_reti], 107)]
theorem zT11_11 (h : Nat) : zTab h 11 11 2 (zt11_11 h) := zTab.mk (ret := (some .int)) (bl := xk11_11) (by decide +kernel) (by decide +kernel) rfl rfl
def zt11_12 (h : Nat) : ZB := [(0, [zf_ald 0, zf_getR 11 17, zf_ild 1, zf_inv h 4 3 1, zf_reti], 9)]
theorem zT11_12 (h : Nat) : zTab h 11 12 2 (zt11_12 h) := zTab.mk (ret := (some .int)) (bl := xk11_12) (by decide +kernel) (by decide +kernel) rfl rfl
def zt11_13 (h : Nat) : ZB := [(0, [zf_ald 0, zf_getI 11 14, zf_if .ne 11, zf_ic (-1), zf_go 20], 11),
  (11, [zf_ald 0, zf_getR 11 12, zf_ild 1, zf_ild 2, zf_inv h 1 11 2], 20),
  (20, [zf_reti], 21)]
theorem zT11_13 (h : Nat) : zTab h 11 13 3 (zt11_13 h) := zTab.mk (ret := (some .int)) (bl := xk11_13) (by decide +kernel) (by decide +kernel) rfl rfl
def zt11_14 (h : Nat) : ZB := [(0, [zf_ald 0, zf_ald 0, zf_getR 11 18, zf_ild 1, zf_inv h 10 5 1, zf_inv h 11 22 1, zf_retz], 13)]
theorem zT11_14 (h : Nat) : zTab h 11 14 2 (zt11_14 h) := zTab.mk (ret := (some .boolean)) (bl := xk11_14) (by decide +kernel) (by decide +kernel) rfl rfl
def zt11_15 (h : Nat) : ZB := [(0, [zf_ild 1, zf_if .lt 12, zf_ild 1, zf_ald 0, zf_getI 11 1, zf_ic2 .le 19], 12),
  (12, [zf_ald 0, zf_ic (-2), zf_inv h 11 22 1, zf_retz], 19),
  (19, [zf_ald 0, zf_ild 1, zf_putI 11 1, zf_ald 0, zf_ic 0, zf_inv h 11 22 1, zf_retz], 30)]
theorem zT11_15 (h : Nat) : zTab h 11 15 2 (zt11_15 h) := zTab.mk (ret := (some .boolean)) (bl := xk11_15) (by decide +kernel) (by decide +kernel) rfl rfl
def zt11_16 (h : Nat) : ZB := [(0, [zf_ald 0, zf_getR 11 17, zf_ild 1, zf_inv h 4 9 1, zf_reti], 9)]
theorem zT11_16 (h : Nat) : zTab h 11 16 2 (zt11_16 h) := zTab.mk (ret := (some .int)) (bl := xk11_16) (by decide +kernel) (by decide +kernel) rfl rfl
def zt11_17 (h : Nat) : ZB := [(0, [zf_ald 0, zf_getI 11 14, zf_if .le 21, zf_ald 0, zf_getR 11 12, zf_inv h 1 30 0, zf_if .eq 21, zf_ic 1, zf_go 22], 21),
  (21, [zf_ic 0], 22),
  (22, [zf_retz], 23)]
theorem zT11_17 (h : Nat) : zTab h 11 17 1 (zt11_17 h) := zTab.mk (ret := (some .boolean)) (bl := xk11_17) (by decide +kernel) (by decide +kernel) rfl rfl
def zt11_18 (h : Nat) : ZB := [(0, [zf_ald 0, zf_getR 11 9, zf_getI 0 0, zf_ic (-1), zf_ic2 .ne 18, zf_ald 0, zf_ic (-3), zf_inv h 11 22 1, zf_retz], 18),
  (18, [zf_ald 0, zf_getR 11 17, zf_ald 0, zf_getR 11 9, zf_ald 0, zf_getR 11 12, zf_inv h 4 28 2, zf_ald 0, zf_ic 0, zf_inv h 11 22 1, zf_retz], 39)]
theorem zT11_18 (h : Nat) : zTab h 11 18 1 (zt11_18 h) := zTab.mk (ret := (some .boolean)) (bl := xk11_18) (by decide +kernel) (by decide +kernel) rfl rfl
def zt11_19 (h : Nat) : ZB := [(0, [zf_ald 0, zf_ic 2, zf_putI 11 3, zf_ic (-2), zf_ild 1, zf_sub, zf_reti], 10)]
theorem zT11_19 (h : Nat) : zTab h 11 19 2 (zt11_19 h) := zTab.mk (ret := (some .int)) (bl := xk11_19) (by decide +kernel) (by decide +kernel) rfl rfl
def zt11_20 (h : Nat) : ZB := [(0, [zf_ald 0, zf_getI 11 1, zf_ic 20, zf_add, zf_ic 4000, zf_ic2 .le 19, zf_ald 0, zf_ic (-1), zf_inv h 11 22 1, zf_retz], 19),
  (19, [zf_ald 0, zf_ild 1, zf_inv h 11 21 1, zf_ald 0, zf_ild 2, zf_inv h 11 21 1, zf_ald 0, zf_ild 3, zf_inv h 11 21 1, zf_ald 0, zf_ild 4, zf_inv h 11 21 1, zf_ald 0, zf_ild 5, zf_inv h 11 21 1, zf_ald 0, zf_ic 0, zf_inv h 11 22 1, zf_retz], 52)]
theorem zT11_20 (h : Nat) : zTab h 11 20 6 (zt11_20 h) := zTab.mk (ret := (some .boolean)) (bl := xk11_20) (by decide +kernel) (by decide +kernel) rfl rfl
def zt11_21 (h : Nat) : ZB := [(0, [zf_ic 24, zf_ist 2], 3),
  (3, [zf_ild 2, zf_if .lt 46, zf_ald 0, zf_getI 11 1, zf_ic 4000, zf_ic2 .ge 46, zf_ald 0, zf_getR 11 0, zf_ald 0, zf_getI 11 1, zf_ild 1, zf_ild 2, zf_bit zushr, zf_cv zi2b, zf_astB, zf_ald 0, zf_dup, zf_getI 11 1, zf_ic 1, zf_add, zf_putI 11 1, zf_inc 2 (-8), zf_go 3], 46),
  (46, [zf_ret], 47)]
theorem zT11_21 (h : Nat) : zTab h 11 21 3 (zt11_21 h) := zTab.mk (ret := none) (bl := xk11_21) (by decide +kernel) (by decide +kernel) rfl rfl
def zt11_22 (h : Nat) : ZB := [(0, [zf_ald 0, zf_ild 1, zf_inv h 11 1 1, zf_ic (-1), zf_ic2 .eq 13, zf_ic 1, zf_go 14], 13),
  (13, [zf_ic 0], 14),
  (14, [zf_retz], 15)]
theorem zT11_22 (h : Nat) : zTab h 11 22 2 (zt11_22 h) := zTab.mk (ret := (some .boolean)) (bl := xk11_22) (by decide +kernel) (by decide +kernel) rfl rfl
def zt11_24 (h : Nat) : ZB := [(0, [zf_ild 0, zf_ic (-1), zf_ic2 .lt 14, zf_ild 0, zf_ic 3, zf_ic2 .gt 14, zf_ic 1, zf_go 15], 14),
  (14, [zf_ic 0], 15),
  (15, [zf_retz], 16)]
theorem zT11_24 (h : Nat) : zTab h 11 24 1 (zt11_24 h) := zTab.mk (ret := (some .boolean)) (bl := xk11_24) (by decide +kernel) (by decide +kernel) rfl rfl
def zt11_26 (h : Nat) : ZB := [(0, [zf_ald 0, zf_getR 11 4, zf_ild 1, zf_inv h 2 16 1, zf_reti], 9)]
theorem zT11_26 (h : Nat) : zTab h 11 26 2 (zt11_26 h) := zTab.mk (ret := (some .int)) (bl := xk11_26) (by decide +kernel) (by decide +kernel) rfl rfl
def zt11_27 (h : Nat) : ZB := [(0, [zf_ald 0, zf_ald 0, zf_getR 11 18, zf_ild 1, zf_ald 0, zf_getR 11 9, zf_inv h 10 14 2, zf_inv h 11 1 1, zf_reti], 17)]
theorem zT11_27 (h : Nat) : zTab h 11 27 2 (zt11_27 h) := zTab.mk (ret := (some .int)) (bl := xk11_27) (by decide +kernel) (by decide +kernel) rfl rfl
def zt11_28 (h : Nat) : ZB := [(0, [zf_ald 0, zf_getR 11 8, zf_ild 1, zf_inv h 3 30 1, zf_reti], 9)]
theorem zT11_28 (h : Nat) : zTab h 11 28 2 (zt11_28 h) := zTab.mk (ret := (some .int)) (bl := xk11_28) (by decide +kernel) (by decide +kernel) rfl rfl
def zt11_29 (h : Nat) : ZB := [(0, [zf_ald 0, zf_getR 11 8, zf_ild 1, zf_ild 2, zf_inv h 3 31 2, zf_reti], 10)]
theorem zT11_29 (h : Nat) : zTab h 11 29 3 (zt11_29 h) := zTab.mk (ret := (some .int)) (bl := xk11_29) (by decide +kernel) (by decide +kernel) rfl rfl
def zt11_30 (h : Nat) : ZB := [(0, [zf_ald 0, zf_getR 11 8, zf_getI 3 14, zf_reti], 8)]
theorem zT11_30 (h : Nat) : zTab h 11 30 1 (zt11_30 h) := zTab.mk (ret := (some .int)) (bl := xk11_30) (by decide +kernel) (by decide +kernel) rfl rfl
def zt11_31 (h : Nat) : ZB := [(0, [zf_ald 0, zf_getR 11 4, zf_ild 1, zf_ild 2, zf_inv h 2 18 2, zf_retl], 10)]
theorem zT11_31 (h : Nat) : zTab h 11 31 3 (zt11_31 h) := zTab.mk (ret := (some .long)) (bl := xk11_31) (by decide +kernel) (by decide +kernel) rfl rfl
def zt11_32 (h : Nat) : ZB := [(0, [zf_ild 1, zf_if .lt 15, zf_ild 1, zf_ald 0, zf_getR 11 17, zf_getI 4 8, zf_ic2 .lt 21], 15),
  (15, [zf_lc 1099511627776, zf_go 32], 21),
  (21, [zf_ald 0, zf_getR 11 17, zf_getR 4 7, zf_ild 1, zf_aldL, zf_l2i, zf_i2l], 32),
  (32, [zf_retl], 33)]
theorem zT11_32 (h : Nat) : zTab h 11 32 2 (zt11_32 h) := zTab.mk (ret := (some .long)) (bl := xk11_32) (by decide +kernel) (by decide +kernel) rfl rfl
def zt11_33 (h : Nat) : ZB := [(0, [zf_ald 0, zf_ic 400, zf_inv h 11 51 1, zf_ist 1, zf_ald 0, zf_getR 11 16, zf_ald 0, zf_getR 11 2, zf_ild 1, zf_inv h 8 3 2, zf_ist 2, zf_ild 2, zf_ic (-1), zf_ic2 .eq 32, zf_ald 0, zf_ild 2, zf_inv h 11 19 1, zf_reti], 32),
  (32, [zf_ald 0, zf_getR 11 15, zf_ast 3, zf_ald 0, zf_ald 0, zf_getR 11 16, zf_putR 11 15, zf_ald 0, zf_ald 3, zf_putR 11 16, zf_ald 0, zf_getR 11 17, zf_ald 0, zf_getR 11 15, zf_inv h 4 27 1, zf_ald 0, zf_ald 0, zf_getR 11 15, zf_getI 8 4, zf_inv h 11 1 1, zf_reti], 73)]
theorem zT11_33 (h : Nat) : zTab h 11 33 4 (zt11_33 h) := zTab.mk (ret := (some .int)) (bl := xk11_33) (by decide +kernel) (by decide +kernel) rfl rfl
def zt11_34 (h : Nat) : ZB := [(0, [zf_ald 0, zf_getR 11 19, zf_ild 1, zf_ild 2, zf_ild 3, zf_inv h 5 19 3, zf_reti], 11)]
theorem zT11_34 (h : Nat) : zTab h 11 34 4 (zt11_34 h) := zTab.mk (ret := (some .int)) (bl := xk11_34) (by decide +kernel) (by decide +kernel) rfl rfl
def zt11_35 (h : Nat) : ZB := [(0, [zf_ald 0, zf_ald 0, zf_getR 11 9, zf_ild 1, zf_ild 2, zf_ild 3, zf_ild 4, zf_ild 5, zf_inv h 0 0 5, zf_inv h 11 1 1, zf_reti], 19)]
theorem zT11_35 (h : Nat) : zTab h 11 35 6 (zt11_35 h) := zTab.mk (ret := (some .int)) (bl := xk11_35) (by decide +kernel) (by decide +kernel) rfl rfl
def zt11_36 (h : Nat) : ZB := [(0, [zf_ald 0, zf_getI 11 14, zf_if .ne 14, zf_ald 0, zf_ic (-3), zf_inv h 11 1 1, zf_reti], 14),
  (14, [zf_ald 0, zf_getR 11 12, zf_inv h 1 30 0, zf_if .eq 38, zf_ald 0, zf_getR 11 17, zf_inv h 4 2 0, zf_if .eq 38, zf_ic 1, zf_go 39], 38),
  (38, [zf_ic 0], 39),
  (39, [zf_ist 1, zf_ald 0, zf_ald 0, zf_getR 11 19, zf_ald 0, zf_getR 11 12, zf_ild 1, zf_inv h 5 0 2, zf_inv h 11 1 1, zf_reti], 57)]
theorem zT11_36 (h : Nat) : zTab h 11 36 2 (zt11_36 h) := zTab.mk (ret := (some .int)) (bl := xk11_36) (by decide +kernel) (by decide +kernel) rfl rfl
def zt11_37 (h : Nat) : ZB := [(0, [zf_ald 0, zf_getR 11 8, zf_ild 1, zf_inv h 3 34 1, zf_reti], 9)]
theorem zT11_37 (h : Nat) : zTab h 11 37 2 (zt11_37 h) := zTab.mk (ret := (some .int)) (bl := xk11_37) (by decide +kernel) (by decide +kernel) rfl rfl
def zt11_38 (h : Nat) : ZB := [(0, [zf_ald 0, zf_ald 0, zf_getR 11 18, zf_inv h 10 18 0, zf_inv h 11 1 1, zf_reti], 12)]
theorem zT11_38 (h : Nat) : zTab h 11 38 1 (zt11_38 h) := zTab.mk (ret := (some .int)) (bl := xk11_38) (by decide +kernel) (by decide +kernel) rfl rfl
def zt11_39 (h : Nat) : ZB := [(0, [zf_ald 0, zf_getI 11 14, zf_if .ne 11, zf_ic (-1), zf_go 19], 11),
  (11, [zf_ald 0, zf_getR 11 12, zf_ild 1, zf_inv h 1 47 1], 19),
  (19, [zf_reti], 20)]
theorem zT11_39 (h : Nat) : zTab h 11 39 2 (zt11_39 h) := zTab.mk (ret := (some .int)) (bl := xk11_39) (by decide +kernel) (by decide +kernel) rfl rfl
def zt11_40 (h : Nat) : ZB := [(0, [zf_ald 0, zf_getR 11 19, zf_ild 1, zf_ild 2, zf_inv h 5 22 2, zf_reti], 10)]
theorem zT11_40 (h : Nat) : zTab h 11 40 3 (zt11_40 h) := zTab.mk (ret := (some .int)) (bl := xk11_40) (by decide +kernel) (by decide +kernel) rfl rfl
def zt11_41 (h : Nat) : ZB := [(0, [zf_ald 0, zf_getR 11 9, zf_getI 0 0, zf_ic (-1), zf_ic2 .ne 18, zf_ald 0, zf_ic (-3), zf_inv h 11 1 1, zf_reti], 18),
  (18, [zf_ild 1, zf_ic 1, zf_ic2 .lt 29, zf_ild 1, zf_ic 20, zf_ic2 .le 36], 29),
  (29, [zf_ald 0, zf_ic (-2), zf_inv h 11 1 1, zf_reti], 36),
  (36, [zf_ic 0, zf_ist 2], 38),
  (38, [zf_ild 2, zf_ild 1, zf_ic2 .ge 66, zf_ald 0, zf_getR 11 9, zf_inv h 0 17 0, zf_if .le 66, zf_ald 0, zf_getR 11 10, zf_inv h 6 4 0, zf_inc 2 1, zf_go 38], 66),
  (66, [zf_ald 0, zf_ald 0, zf_getR 11 9, zf_inv h 0 17 0, zf_inv h 11 1 1, zf_reti], 78)]
theorem zT11_41 (h : Nat) : zTab h 11 41 3 (zt11_41 h) := zTab.mk (ret := (some .int)) (bl := xk11_41) (by decide +kernel) (by decide +kernel) rfl rfl
def zt11_42 (h : Nat) : ZB := [(0, [zf_ild 1, zf_ic 4, zf_ic2 .ne 9, zf_ic 0, zf_go 11], 9),
  (9, [zf_ic 100000], 11),
  (11, [zf_ist 5, zf_ild 1, zf_if .lt 40, zf_ild 1, zf_ic 4, zf_ic2 .gt 40, zf_ild 2, zf_inst h 11 24 1, zf_if .eq 40, zf_ild 3, zf_inst h 11 24 1, zf_if .eq 40, zf_ic 1, zf_go 41], 40),
  (40, [zf_ic 0], 41),
  (41, [zf_ist 6, zf_ild 6, zf_if .eq 60, zf_ild 4, zf_if .lt 60, zf_ild 4, zf_ild 5, zf_ic2 .le 67], 60),
  (60, [zf_ald 0, zf_ic (-2), zf_inv h 11 1 1, zf_reti], 67),
  (67, [zf_ald 0, zf_getR 11 11, zf_inv h 7 2 0, zf_if .ne 83, zf_ald 0, zf_ic (-1), zf_inv h 11 1 1, zf_reti], 83),
  (83, [zf_ald 0, zf_ald 0, zf_getR 11 11, zf_ild 1, zf_ild 2, zf_ild 3, zf_ild 4, zf_ic 0, zf_inv h 7 0 5, zf_inv h 11 1 1, zf_reti], 101)]
theorem zT11_42 (h : Nat) : zTab h 11 42 7 (zt11_42 h) := zTab.mk (ret := (some .int)) (bl := xk11_42) (by decide +kernel) (by decide +kernel) rfl rfl
def zt11_43 (h : Nat) : ZB := [(0, [zf_ild 1, zf_ic 1, zf_ic2 .lt 12, zf_ild 1, zf_ic 300, zf_ic2 .le 19], 12),
  (12, [zf_ald 0, zf_ic (-2), zf_inv h 11 1 1, zf_reti], 19),
  (19, [zf_ald 0, zf_ald 0, zf_getR 11 17, zf_ild 1, zf_inv h 4 13 1, zf_inv h 11 1 1, zf_reti], 32)]
theorem zT11_43 (h : Nat) : zTab h 11 43 2 (zt11_43 h) := zTab.mk (ret := (some .int)) (bl := xk11_43) (by decide +kernel) (by decide +kernel) rfl rfl
def zt11_44 (h : Nat) : ZB := [(0, [zf_ald 0, zf_ald 0, zf_getR 11 18, zf_ald 0, zf_getR 11 9, zf_inv h 10 12 1, zf_inv h 11 1 1, zf_reti], 16)]
theorem zT11_44 (h : Nat) : zTab h 11 44 1 (zt11_44 h) := zTab.mk (ret := (some .int)) (bl := xk11_44) (by decide +kernel) (by decide +kernel) rfl rfl
def zt11_45 (h : Nat) : ZB := [(0, [zf_ald 0, zf_getR 11 18, zf_ild 1, zf_ild 2, zf_inv h 10 3 2, zf_reti], 10)]
theorem zT11_45 (h : Nat) : zTab h 11 45 3 (zt11_45 h) := zTab.mk (ret := (some .int)) (bl := xk11_45) (by decide +kernel) (by decide +kernel) rfl rfl
def zt11_46 (h : Nat) : ZB := [(0, [zf_ald 0, zf_ald 0, zf_getR 11 19, zf_ild 1, zf_inv h 5 18 1, zf_inv h 11 1 1, zf_reti], 13)]
theorem zT11_46 (h : Nat) : zTab h 11 46 2 (zt11_46 h) := zTab.mk (ret := (some .int)) (bl := xk11_46) (by decide +kernel) (by decide +kernel) rfl rfl
def zt11_47 (h : Nat) : ZB := [(0, [zf_ild 1, zf_if .eq 16, zf_ild 1, zf_ic 1, zf_ic2 .eq 16, zf_ald 0, zf_ic (-2), zf_inv h 11 1 1, zf_reti], 16),
  (16, [zf_ald 0, zf_getI 11 7, zf_ic 24, zf_ic2 .ge 36, zf_ald 0, zf_getR 11 8, zf_getI 3 15, zf_ic 4, zf_ic2 .lt 42], 36),
  (36, [zf_ald 0, zf_ic (-1), zf_inv h 11 1 1, zf_reti], 42),
  (42, [zf_ald 0, zf_dup, zf_getI 11 7, zf_ic 1, zf_add, zf_putI 11 7, zf_ald 0, zf_ic 4000, zf_inv h 11 51 1, zf_ist 2, zf_ald 0, zf_getR 11 6, zf_ald 0, zf_getR 11 2, zf_ild 2, zf_ild 1, zf_ald 0, zf_getR 11 5, zf_inv h 9 3 4, zf_ist 3, zf_ild 3, zf_ic (-1), zf_ic2 .eq 89, zf_ald 0, zf_ild 3, zf_inv h 11 19 1, zf_reti], 89),
  (89, [zf_ald 0, zf_getR 11 4, zf_ast 4, zf_ald 0, zf_ald 0, zf_getR 11 5, zf_putR 11 4, zf_ald 0, zf_ald 4, zf_putR 11 5, zf_ald 0, zf_getR 11 4, zf_inv h 2 31 0, zf_ald 0, zf_getR 11 8, zf_ald 0, zf_getR 11 4, zf_inv h 3 6 1, zf_ald 0, zf_ald 0, zf_getR 11 4, zf_getI 2 0, zf_inv h 11 1 1, zf_reti], 139)]
theorem zT11_47 (h : Nat) : zTab h 11 47 5 (zt11_47 h) := zTab.mk (ret := (some .int)) (bl := xk11_47) (by decide +kernel) (by decide +kernel) rfl rfl
def zt11_48 (h : Nat) : ZB := [(0, [zf_ald 0, zf_getI 11 14, zf_if .ne 11, zf_ic (-1), zf_go 18], 11),
  (11, [zf_ald 0, zf_getR 11 12, zf_getI 1 9], 18),
  (18, [zf_reti], 19)]
theorem zT11_48 (h : Nat) : zTab h 11 48 1 (zt11_48 h) := zTab.mk (ret := (some .int)) (bl := xk11_48) (by decide +kernel) (by decide +kernel) rfl rfl
def zt11_50 (h : Nat) : ZB := [(0, [zf_ald 0, zf_ald 0, zf_getR 11 18, zf_inv h 10 21 0, zf_inv h 11 1 1, zf_reti], 12)]
theorem zT11_50 (h : Nat) : zTab h 11 50 1 (zt11_50 h) := zTab.mk (ret := (some .int)) (bl := xk11_50) (by decide +kernel) (by decide +kernel) rfl rfl
def zt11_51 (h : Nat) : ZB := [(0, [zf_ic 0, zf_ist 2, zf_ic 0, zf_ist 3], 4),
  (4, [zf_ild 3, zf_ald 0, zf_getI 11 1, zf_ic2 .ge 64, zf_ild 2, zf_ild 1, zf_ic2 .ge 64, zf_ald 0, zf_getR 11 0, zf_ild 3, zf_aldB, zf_ist 4, zf_ild 4, zf_ic 10, zf_ic2 .eq 46, zf_ild 4, zf_ic 32, zf_ic2 .lt 58, zf_ild 4, zf_ic 126, zf_ic2 .gt 58], 46),
  (46, [zf_ald 0, zf_getR 11 2, zf_ild 2, zf_ild 4, zf_cv zi2c, zf_astC, zf_inc 2 1], 58),
  (58, [zf_inc 3 1, zf_go 4], 64),
  (64, [zf_ald 0, zf_ic 0, zf_putI 11 1, zf_ild 2, zf_reti], 71)]
theorem zT11_51 (h : Nat) : zTab h 11 51 5 (zt11_51 h) := zTab.mk (ret := (some .int)) (bl := xk11_51) (by decide +kernel) (by decide +kernel) rfl rfl
def zt11_52 (h : Nat) : ZB := [(0, [zf_ald 0, zf_getI 11 3, zf_reti], 5)]
theorem zT11_52 (h : Nat) : zTab h 11 52 1 (zt11_52 h) := zTab.mk (ret := (some .int)) (bl := xk11_52) (by decide +kernel) (by decide +kernel) rfl rfl
def zt11_53 (h : Nat) : ZB := [(0, [zf_ald 0, zf_getI 11 14, zf_if .ne 11, zf_ic (-1), zf_go 20], 11),
  (11, [zf_ald 0, zf_getR 11 12, zf_ild 1, zf_ild 2, zf_inv h 1 16 2], 20),
  (20, [zf_reti], 21)]
theorem zT11_53 (h : Nat) : zTab h 11 53 3 (zt11_53 h) := zTab.mk (ret := (some .int)) (bl := xk11_53) (by decide +kernel) (by decide +kernel) rfl rfl
def zt11_54 (h : Nat) : ZB := [(0, [zf_ald 0, zf_getI 11 14, zf_if .ne 11, zf_ic (-1), zf_go 18], 11),
  (11, [zf_ald 0, zf_getR 11 12, zf_getI 1 11], 18),
  (18, [zf_reti], 19)]
theorem zT11_54 (h : Nat) : zTab h 11 54 1 (zt11_54 h) := zTab.mk (ret := (some .int)) (bl := xk11_54) (by decide +kernel) (by decide +kernel) rfl rfl
def zt11_55 (h : Nat) : ZB := [(0, [zf_ald 0, zf_getR 11 9, zf_ild 1, zf_ild 2, zf_ild 3, zf_inv h 0 28 3, zf_reti], 11)]
theorem zT11_55 (h : Nat) : zTab h 11 55 4 (zt11_55 h) := zTab.mk (ret := (some .int)) (bl := xk11_55) (by decide +kernel) (by decide +kernel) rfl rfl
def zt11_56 (h : Nat) : ZB := [(0, [zf_ald 0, zf_ald 0, zf_getR 11 19, zf_ild 1, zf_inv h 5 24 1, zf_inv h 11 22 1, zf_retz], 13)]
theorem zT11_56 (h : Nat) : zTab h 11 56 2 (zt11_56 h) := zTab.mk (ret := (some .boolean)) (bl := xk11_56) (by decide +kernel) (by decide +kernel) rfl rfl
def zt11_58 (h : Nat) : ZB := [(0, [zf_ald 0, zf_getR 11 4, zf_ild 1, zf_inv h 2 19 1, zf_reti], 9)]
theorem zT11_58 (h : Nat) : zTab h 11 58 2 (zt11_58 h) := zTab.mk (ret := (some .int)) (bl := xk11_58) (by decide +kernel) (by decide +kernel) rfl rfl
def zt12_2 (h : Nat) : ZB := [(0, [zf_ald 0, zf_ic 0, zf_putI 12 0, zf_ild 1, zf_if .lt 17, zf_ild 1, zf_ald 0, zf_getI 12 38, zf_ic2 .lt 19], 17),
  (17, [zf_ic (-1), zf_reti], 19),
  (19, [zf_ald 0, zf_ald 0, zf_getR 12 39, zf_ild 1, zf_aldI 100, zf_inv h 12 4 1, zf_if .ne 37, zf_ic (-2), zf_go 51], 37),
  (37, [zf_ald 0, zf_getL 12 65, zf_lc 0, zf_lcmp, zf_if .eq 50, zf_ic 1, zf_go 51], 50),
  (50, [zf_ic 0], 51),
  (51, [zf_reti], 52)]
theorem zT12_2 (h : Nat) : zTab h 12 2 2 (zt12_2 h) := zTab.mk (ret := (some .int)) (bl := xk12_2) (by decide +kernel) (by decide +kernel) rfl rfl
def zt12_15 (h : Nat) : ZB := [(0, [zf_ald 0, zf_ild 1, zf_if .lt 14, zf_ild 1, zf_ic 3, zf_ic2 .ge 14, zf_ic 0, zf_go 15], 14),
  (14, [zf_ic 1], 15),
  (15, [zf_putI 12 0, zf_ald 0, zf_getI 12 0, zf_if .eq 27, zf_ic 0, zf_reti], 27),
  (27, [zf_ild 1, zf_if .ne 38, zf_ald 0, zf_getI 12 46, zf_go 54], 38),
  (38, [zf_ild 1, zf_ic 1, zf_ic2 .ne 50, zf_ald 0, zf_getI 12 47, zf_go 54], 50),
  (50, [zf_ald 0, zf_getI 12 48], 54),
  (54, [zf_reti], 55)]
theorem zT12_15 (h : Nat) : zTab h 12 15 2 (zt12_15 h) := zTab.mk (ret := (some .int)) (bl := xk12_15) (by decide +kernel) (by decide +kernel) rfl rfl
def zt12_18 (h : Nat) : ZB := [(0, [zf_ic 0, zf_ist 1], 2),
  (2, [zf_ild 1, zf_ic 26, zf_ic2 .ge 21, zf_ald 0, zf_getR 12 33, zf_ild 1, zf_lc 0, zf_astL, zf_inc 1 1, zf_go 2], 21),
  (21, [zf_ald 0, zf_lc 0, zf_putL 12 35, zf_ald 0, zf_ic 0, zf_putI 12 36, zf_ald 0, zf_ic 0, zf_putI 12 38, zf_ald 0, zf_ic 0, zf_putI 12 40, zf_ald 0, zf_ic 0, zf_putI 12 42, zf_ald 0, zf_ic 0, zf_putZ 12 44, zf_ald 0, zf_ic 0, zf_putI 12 45, zf_ald 0, zf_ic 0, zf_putI 12 46, zf_ald 0, zf_ic (-1), zf_putI 12 47, zf_ald 0, zf_ic 0, zf_putI 12 48, zf_ret], 72)]
theorem zT12_18 (h : Nat) : zTab h 12 18 2 (zt12_18 h) := zTab.mk (ret := none) (bl := xk12_18) (by decide +kernel) (by decide +kernel) rfl rfl
def zt12_34 (h : Nat) : ZB := [(0, [zf_ic 600, zf_ald 0, zf_getI 12 15, zf_mul, zf_ald 0, zf_getI 12 18, zf_add, zf_ist 3, zf_ald 0, zf_getR 12 6, zf_ild 3, zf_ild 1, zf_astI, zf_ald 0, zf_getR 12 7, zf_ild 3, zf_ild 2, zf_astI, zf_ald 0, zf_getR 12 8, zf_ild 3, zf_ic 0, zf_astI, zf_ald 0, zf_getR 12 9, zf_ild 3, zf_ic 0, zf_astI, zf_ald 0, zf_getR 12 10, zf_ild 3, zf_ic 0, zf_astI, zf_ald 0, zf_getR 12 11, zf_ild 3, zf_ic 0, zf_astI, zf_ald 0, zf_dup, zf_getI 12 18, zf_ic 1, zf_add, zf_putI 12 18, zf_ald 0, zf_getI 12 18, zf_ic 1, zf_sub, zf_reti], 73)]
theorem zT12_34 (h : Nat) : zTab h 12 34 4 (zt12_34 h) := zTab.mk (ret := (some .int)) (bl := xk12_34) (by decide +kernel) (by decide +kernel) rfl rfl
def zt12_35 (h : Nat) : ZB := [(0, [zf_ald 0, zf_ild 1, zf_if .lt 17, zf_ild 1, zf_ald 0, zf_getI 12 36, zf_ic2 .ge 17, zf_ic 0, zf_go 18], 17),
  (17, [zf_ic 1], 18),
  (18, [zf_putI 12 0, zf_ald 0, zf_getI 12 0, zf_if .ne 37, zf_ald 0, zf_getR 12 37, zf_ild 1, zf_aldI 100, zf_go 38], 37),
  (37, [zf_ic 0], 38),
  (38, [zf_reti], 39)]
theorem zT12_35 (h : Nat) : zTab h 12 35 2 (zt12_35 h) := zTab.mk (ret := (some .int)) (bl := xk12_35) (by decide +kernel) (by decide +kernel) rfl rfl
def zt12_39 (h : Nat) : ZB := [(0, [zf_ald 0, zf_ic 0, zf_putI 12 0, zf_ald 0, zf_ic 1, zf_ald 0, zf_getI 12 3, zf_sub, zf_putI 12 15, zf_ald 0, zf_ic 0, zf_putI 12 16, zf_ald 0, zf_ic (-1), zf_putI 12 17, zf_ald 0, zf_ic 0, zf_putI 12 18, zf_ald 0, zf_ic 0, zf_putI 12 19, zf_ald 0, zf_ic 0, zf_putI 12 20, zf_ald 0, zf_ic 0, zf_putI 12 21, zf_ic 0, zf_ist 1], 47),
  (47, [zf_ild 1, zf_ic 26, zf_ic2 .ge 74, zf_ald 0, zf_getR 12 12, zf_ic 26, zf_ald 0, zf_getI 12 15, zf_mul, zf_ild 1, zf_add, zf_ic (-1), zf_astI, zf_inc 1 1, zf_go 47], 74),
  (74, [zf_ald 0, zf_getI 12 17, zf_ic (-1), zf_ic2 .ne 172, zf_ald 0, zf_getI 12 16, zf_ald 0, zf_getI 12 1, zf_ic2 .lt 100, zf_ald 0, zf_getI 12 21, zf_if .le 172], 100),
  (100, [zf_ald 0, zf_inv h 12 36 0, zf_ic 10, zf_ic2 .ne 122, zf_ald 0, zf_dup, zf_getI 12 16, zf_ic 1, zf_add, zf_putI 12 16, zf_go 100], 122),
  (122, [zf_ald 0, zf_inv h 12 24 0, zf_if .eq 136, zf_ald 0, zf_inv h 12 8 0, zf_go 74], 136),
  (136, [zf_ald 0, zf_getI 12 16, zf_ald 0, zf_getI 12 1, zf_ic2 .ge 154, zf_ald 0, zf_inv h 12 46 0, zf_go 74], 154),
  (154, [zf_ald 0, zf_getI 12 21, zf_if .le 74, zf_ald 0, zf_ald 0, zf_getI 12 16, zf_putI 12 17, zf_go 74], 172),
  (172, [zf_ald 0, zf_getI 12 1, zf_ist 1, zf_ald 0, zf_ic 0, zf_putI 12 1, zf_ald 0, zf_getI 12 17, zf_ic (-1), zf_ic2 .eq 197, zf_ic (-1), zf_ald 0, zf_getI 12 17, zf_sub, zf_reti], 197),
  (197, [zf_ald 0, zf_ic 20, zf_ic 0, zf_inv h 12 34 2, zf_pop, zf_ic 0, zf_ist 2], 207),
  (207, [zf_ild 2, zf_ild 1, zf_ic2 .ge 239, zf_ald 0, zf_getR 12 5, zf_ic 400, zf_ald 0, zf_getI 12 15, zf_mul, zf_ild 2, zf_add, zf_ald 0, zf_getR 12 2, zf_ild 2, zf_aldI 100, zf_astI, zf_inc 2 1, zf_go 207], 239),
  (239, [zf_ald 0, zf_getR 12 4, zf_ald 0, zf_getI 12 15, zf_ild 1, zf_astI, zf_ald 0, zf_ald 0, zf_getI 12 15, zf_putI 12 3, zf_ald 0, zf_inv h 12 18 0, zf_ald 0, zf_getI 12 20, zf_reti], 266)]
theorem zT12_39 (h : Nat) : zTab h 12 39 3 (zt12_39 h) := zTab.mk (ret := (some .int)) (bl := xk12_39) (by decide +kernel) (by decide +kernel) rfl rfl
def zt12_48 (h : Nat) : ZB := [(0, [zf_ald 0, zf_lld 1, zf_lc 1, zf_lcmp, zf_if .lt 19, zf_lld 1, zf_lc 300, zf_lcmp, zf_if .gt 19, zf_ic 0, zf_go 20], 19),
  (19, [zf_ic 1], 20),
  (20, [zf_putI 12 0, zf_ald 0, zf_getI 12 0, zf_if .eq 32, zf_ic 0, zf_reti], 32),
  (32, [zf_ald 0, zf_inv h 12 18 0, zf_ald 0, zf_lld 1, zf_putL 12 34, zf_ald 0, zf_ic 0, zf_putZ 12 49, zf_ald 0, zf_ic 0, zf_putI 12 50, zf_ald 0, zf_ic 0, zf_putI 12 52, zf_ald 0, zf_ic 0, zf_putI 12 53, zf_ald 0, zf_ic 0, zf_putI 12 55], 66),
  (66, [zf_ald 0, zf_getI 12 49, zf_if .ne 80, zf_ald 0, zf_inv h 12 55 0, zf_go 66], 80),
  (80, [zf_ald 0, zf_getI 12 50, zf_reti], 85)]
theorem zT12_48 (h : Nat) : zTab h 12 48 3 (zt12_48 h) := zTab.mk (ret := (some .int)) (bl := xk12_48) (by decide +kernel) (by decide +kernel) rfl rfl
def zt12_53 (h : Nat) : ZB := [(0, [zf_ald 0, zf_getI 12 0, zf_reti], 5)]
theorem zT12_53 (h : Nat) : zTab h 12 53 1 (zt12_53 h) := zTab.mk (ret := (some .int)) (bl := xk12_53) (by decide +kernel) (by decide +kernel) rfl rfl
def zt12_55 (h : Nat) : ZB := [(0, [zf_ic 600, zf_ald 0, zf_getI 12 3, zf_mul, zf_ald 0, zf_getI 12 52, zf_add, zf_ist 1, zf_ald 0, zf_getR 12 6, zf_ild 1, zf_aldI 100, zf_ist 2, zf_ald 0, zf_dup, zf_getI 12 52, zf_ic 1, zf_add, zf_putI 12 52, zf_ild 2, zf_sw 168 8 20 [141, 168, 152, 163, 168, 168, 168, 168, 168, 106, 168, 117, 100]], 100),
  (100, [zf_ald 0, zf_ic 1, zf_putZ 12 49, zf_ret], 106),
  (106, [zf_ald 0, zf_ald 0, zf_getR 12 11, zf_ild 1, zf_aldI 100, zf_putI 12 52, zf_ret], 117),
  (117, [zf_ald 0, zf_dup, zf_getI 12 53, zf_ic 1, zf_sub, zf_putI 12 53, zf_ald 0, zf_ald 0, zf_getR 12 54, zf_ald 0, zf_getI 12 53, zf_aldI 100, zf_putI 12 52, zf_ret], 141),
  (141, [zf_ald 0, zf_ald 0, zf_getR 12 7, zf_ild 1, zf_aldI 100, zf_inv h 12 14 1, zf_ret], 152),
  (152, [zf_ald 0, zf_ald 0, zf_getR 12 7, zf_ild 1, zf_aldI 100, zf_inv h 12 6 1, zf_ret], 163),
  (163, [zf_ald 0, zf_inv h 12 9 0, zf_ret], 168),
  (168, [zf_ald 0, zf_ald 0, zf_getR 12 7, zf_ild 1, zf_aldI 100, zf_inv h 12 50 1, zf_if .ne 182, zf_ret], 182),
  (182, [zf_ild 2, zf_sw 320 1 18 [268, 268, 268, 320, 320, 320, 275, 320, 296, 320, 320, 320, 320, 320, 320, 320, 320, 309]], 268),
  (268, [zf_ald 0, zf_ild 2, zf_ild 1, zf_inv h 12 51 2, zf_ret], 275),
  (275, [zf_ald 0, zf_ic 7, zf_ald 0, zf_getI 12 45, zf_inv h 12 19 2, zf_ald 0, zf_dup, zf_getI 12 45, zf_ic 1, zf_add, zf_putI 12 45, zf_ret], 296),
  (296, [zf_ald 0, zf_ic 9, zf_ald 0, zf_getR 12 11, zf_ild 1, zf_aldI 100, zf_inv h 12 19 2, zf_ret], 309),
  (309, [zf_ald 0, zf_ald 0, zf_getR 12 8, zf_ild 1, zf_aldI 100, zf_inv h 12 7 1, zf_ret], 320),
  (320, [zf_ald 0, zf_ild 2, zf_ild 1, zf_inv h 12 0 2, zf_ret], 327)]
theorem zT12_55 (h : Nat) : zTab h 12 55 3 (zt12_55 h) := zTab.mk (ret := none) (bl := xk12_55) (by decide +kernel) (by decide +kernel) rfl rfl
def zt13_3 (h : Nat) : ZB := [(0, [zf_ald 0, zf_ic 2, zf_inv h 13 8 1, zf_if .ne 10, zf_ic 0, zf_retz], 10),
  (10, [zf_ald 0, zf_ild 1, zf_if .lt 27, zf_ild 1, zf_ald 0, zf_getI 13 5, zf_ic2 .gt 27, zf_ic 0, zf_go 28], 27),
  (27, [zf_ic 1], 28),
  (28, [zf_putI 13 0, zf_ald 0, zf_getI 13 0, zf_if .eq 40, zf_ic 0, zf_retz], 40),
  (40, [zf_ald 0, zf_getI 13 5, zf_ild 1, zf_ic2 .le 52, zf_ic 1, zf_go 53], 52),
  (52, [zf_ic 0], 53),
  (53, [zf_ist 2, zf_ald 0, zf_ild 1, zf_putI 13 5, zf_ald 0, zf_ic 0, zf_putI 13 3, zf_ald 0, zf_ic 0, zf_putI 13 7, zf_ic 0, zf_ist 3], 71),
  (71, [zf_ild 3, zf_ic 24, zf_ic2 .ge 90, zf_ald 0, zf_getR 13 10, zf_ild 3, zf_ic 0, zf_astB, zf_inc 3 1, zf_go 71], 90),
  (90, [zf_ald 0, zf_ic 1, zf_putZ 13 2, zf_ild 2, zf_retz], 97)]
theorem zT13_3 (h : Nat) : zTab h 13 3 4 (zt13_3 h) := zTab.mk (ret := (some .boolean)) (bl := xk13_3) (by decide +kernel) (by decide +kernel) rfl rfl
def zt13_8 (h : Nat) : ZB := [(0, [zf_ald 0, zf_ald 0, zf_getI 13 2, zf_if .eq 12, zf_ild 1, zf_go 13], 12),
  (12, [zf_ic 0], 13),
  (13, [zf_putI 13 0, zf_ald 0, zf_getI 13 2, zf_if .ne 27, zf_ald 0, zf_inv h 13 17 0], 27),
  (27, [zf_ald 0, zf_getI 13 2, zf_if .ne 38, zf_ic 1, zf_go 39], 38),
  (38, [zf_ic 0], 39),
  (39, [zf_retz], 40)]
theorem zT13_8 (h : Nat) : zTab h 13 8 2 (zt13_8 h) := zTab.mk (ret := (some .boolean)) (bl := xk13_8) (by decide +kernel) (by decide +kernel) rfl rfl
def zt13_9 (h : Nat) : ZB := [(0, [zf_ild 1, zf_if .lt 16, zf_ild 1, zf_ald 0, zf_getI 13 15, zf_ic2 .ge 16, zf_ic 1, zf_go 17], 16),
  (16, [zf_ic 0], 17),
  (17, [zf_retz], 18)]
theorem zT13_9 (h : Nat) : zTab h 13 9 2 (zt13_9 h) := zTab.mk (ret := (some .boolean)) (bl := xk13_9) (by decide +kernel) (by decide +kernel) rfl rfl
def zt13_10 (h : Nat) : ZB := [(0, [zf_ald 0, zf_ic 2, zf_inv h 13 8 1, zf_if .ne 10, zf_ic 0, zf_reti], 10),
  (10, [zf_ald 0, zf_ald 0, zf_ild 1, zf_inv h 13 9 1, zf_if .eq 27, zf_ild 2, zf_if .lt 27, zf_ic 0, zf_go 28], 27),
  (27, [zf_ic 1], 28),
  (28, [zf_putI 13 0, zf_ald 0, zf_getI 13 0, zf_if .eq 40, zf_ic 0, zf_reti], 40),
  (40, [zf_ild 2, zf_ist 3, zf_ic 0, zf_ist 4], 45),
  (45, [zf_ild 4, zf_ald 0, zf_getR 13 16, zf_ild 1, zf_aldI 100, zf_ic2 .ge 112, zf_ald 0, zf_getR 13 17, zf_ic 8, zf_ild 1, zf_mul, zf_ild 4, zf_add, zf_aldI 100, zf_ist 5, zf_ild 3, zf_ald 0, zf_getR 13 13, zf_ild 5, zf_aldI 100, zf_ic2 .ge 96, zf_ald 0, zf_getR 13 6, zf_ald 0, zf_getR 13 12, zf_ild 5, zf_aldI 100, zf_ild 3, zf_add, zf_aldI 100, zf_reti], 96),
  (96, [zf_ild 3, zf_ald 0, zf_getR 13 13, zf_ild 5, zf_aldI 100, zf_sub, zf_ist 3, zf_inc 4 1, zf_go 45], 112),
  (112, [zf_ic (-1), zf_reti], 114)]
theorem zT13_10 (h : Nat) : zTab h 13 10 6 (zt13_10 h) := zTab.mk (ret := (some .int)) (bl := xk13_10) (by decide +kernel) (by decide +kernel) rfl rfl
def zt13_13 (h : Nat) : ZB := [(0, [zf_ald 0, zf_ic 1, zf_inv h 13 8 1, zf_if .eq 18, zf_ald 0, zf_getI 13 5, zf_ic 400, zf_ic2 .ne 20], 18),
  (18, [zf_ic 0, zf_reti], 20),
  (20, [zf_ald 0, zf_inv h 13 14 0, zf_ald 0, zf_getI 13 20, zf_ist 1, zf_ald 0, zf_ic 5, zf_inv h 13 18 1, zf_ild 1, zf_reti], 36)]
theorem zT13_13 (h : Nat) : zTab h 13 13 2 (zt13_13 h) := zTab.mk (ret := (some .int)) (bl := xk13_13) (by decide +kernel) (by decide +kernel) rfl rfl
def zt13_14 (h : Nat) : ZB := [(0, [zf_ald 0, zf_ic 0, zf_putI 13 20, zf_ic 0, zf_ist 1], 7),
  (7, [zf_ild 1, zf_ald 0, zf_getI 13 11, zf_ic2 .ge 58, zf_ald 0, zf_getR 13 14, zf_ild 1, zf_aldB, zf_if .eq 52, zf_ald 0, zf_ild 1, zf_inv h 13 7 1, zf_if .eq 35, zf_go 52], 35),
  (35, [zf_ald 0, zf_getR 13 14, zf_ild 1, zf_ic 0, zf_astB, zf_ald 0, zf_dup, zf_getI 13 20, zf_ic 1, zf_add, zf_putI 13 20], 52),
  (52, [zf_inc 1 1, zf_go 7], 58),
  (58, [zf_ret], 59)]
theorem zT13_14 (h : Nat) : zTab h 13 14 2 (zt13_14 h) := zTab.mk (ret := none) (bl := xk13_14) (by decide +kernel) (by decide +kernel) rfl rfl
def zt13_15 (h : Nat) : ZB := [(0, [zf_ald 0, zf_getI 13 0, zf_reti], 5)]
theorem zT13_15 (h : Nat) : zTab h 13 15 1 (zt13_15 h) := zTab.mk (ret := (some .int)) (bl := xk13_15) (by decide +kernel) (by decide +kernel) rfl rfl
def zt13_17 (h : Nat) : ZB := [(0, [zf_ald 0, zf_ic 0, zf_putI 13 11, zf_ald 0, zf_ic 0, zf_putI 13 15, zf_ald 0, zf_getR 13 16, zf_ic 0, zf_ic 0, zf_astI, zf_ald 0, zf_getR 13 18, zf_ic 0, zf_ic 0, zf_astB, zf_ald 0, zf_ic 0, zf_putI 13 19], 29),
  (29, [zf_ald 0, zf_getI 13 19, zf_ald 0, zf_getI 13 5, zf_ic2 .ge 88, zf_ald 0, zf_getI 13 19, zf_ald 0, zf_ald 0, zf_getI 13 19, zf_inv h 13 12 1, zf_add, zf_ald 0, zf_getI 13 5, zf_ic2 .gt 88, zf_ald 0, zf_ald 0, zf_getI 13 19, zf_inv h 13 0 1, zf_ald 0, zf_dup, zf_getI 13 19, zf_ald 0, zf_ald 0, zf_getI 13 19, zf_inv h 13 12 1, zf_add, zf_putI 13 19, zf_go 29], 88),
  (88, [zf_ret], 89)]
theorem zT13_17 (h : Nat) : zTab h 13 17 1 (zt13_17 h) := zTab.mk (ret := none) (bl := xk13_17) (by decide +kernel) (by decide +kernel) rfl rfl
def zt13_18 (h : Nat) : ZB := [(0, [zf_ald 0, zf_getR 13 6, zf_ald 0, zf_getI 13 5, zf_ild 1, zf_astI, zf_ald 0, zf_dup, zf_getI 13 5, zf_ic 1, zf_add, zf_putI 13 5, zf_ret], 21)]
theorem zT13_18 (h : Nat) : zTab h 13 18 2 (zt13_18 h) := zTab.mk (ret := none) (bl := xk13_18) (by decide +kernel) (by decide +kernel) rfl rfl
def zt19_0 (h : Nat) : ZB := [(0, [zf_ald 0, zf_ald 0, zf_ild 1, zf_inv h 19 18 1, zf_if .ne 13, zf_ic 1, zf_go 37], 13),
  (13, [zf_ild 2, zf_if .lt 36, zf_ild 2, zf_ic 16, zf_ic2 .ge 36, zf_ild 3, zf_if .lt 36, zf_ild 3, zf_ic 4, zf_ic2 .ge 36, zf_ic 0, zf_go 37], 36),
  (36, [zf_ic 2], 37),
  (37, [zf_putI 19 0, zf_ald 0, zf_getI 19 0, zf_if .eq 49, zf_ic 0, zf_reti], 49),
  (49, [zf_ald 0, zf_getR 19 19, zf_ic 16, zf_ild 1, zf_mul, zf_ild 2, zf_add, zf_ic 1, zf_ild 3, zf_add, zf_astI, zf_ald 0, zf_ild 1, zf_ic 0, zf_ild 2, zf_ild 3, zf_inv h 19 22 4, zf_ald 0, zf_ild 1, zf_inv h 19 15 1, zf_if .eq 83, zf_ic 1, zf_go 84], 83),
  (83, [zf_ic 0], 84),
  (84, [zf_reti], 85)]
theorem zT19_0 (h : Nat) : zTab h 19 0 4 (zt19_0 h) := zTab.mk (ret := (some .int)) (bl := xk19_0) (by decide +kernel) (by decide +kernel) rfl rfl
def zt19_17 (h : Nat) : ZB := [(0, [zf_ald 0, zf_ild 1, zf_inv h 19 18 1, zf_if .eq 26, zf_ild 2, zf_if .lt 26, zf_ild 2, zf_ald 0, zf_getR 19 9, zf_ild 1, zf_aldI 100, zf_ic2 .ge 26, zf_ic 1, zf_go 27], 26),
  (26, [zf_ic 0], 27),
  (27, [zf_retz], 28)]
theorem zT19_17 (h : Nat) : zTab h 19 17 3 (zt19_17 h) := zTab.mk (ret := (some .boolean)) (bl := xk19_17) (by decide +kernel) (by decide +kernel) rfl rfl
def zt19_18 (h : Nat) : ZB := [(0, [zf_ild 1, zf_if .lt 16, zf_ild 1, zf_ald 0, zf_getI 19 8, zf_ic2 .ge 16, zf_ic 1, zf_go 17], 16),
  (16, [zf_ic 0], 17),
  (17, [zf_retz], 18)]
theorem zT19_18 (h : Nat) : zTab h 19 18 2 (zt19_18 h) := zTab.mk (ret := (some .boolean)) (bl := xk19_18) (by decide +kernel) (by decide +kernel) rfl rfl
def zt19_24 (h : Nat) : ZB := [(0, [zf_ald 0, zf_ald 0, zf_ild 1, zf_ild 2, zf_inv h 19 17 2, zf_if .eq 18, zf_ild 3, zf_if .lt 18, zf_ic 0, zf_go 19], 18),
  (18, [zf_ic 1], 19),
  (19, [zf_putI 19 0, zf_ald 0, zf_getI 19 0, zf_if .eq 31, zf_ic 0, zf_reti], 31),
  (31, [zf_ald 0, zf_ild 3, zf_inv h 19 1 1, zf_ald 0, zf_ild 2, zf_ald 0, zf_getR 19 9, zf_ild 1, zf_aldI 100, zf_inst h 19 30 2, zf_inv h 19 28 1, zf_ald 0, zf_ild 1, zf_inv h 19 19 1, zf_ild 2, zf_ist 4], 58),
  (58, [zf_ald 0, zf_getI 19 15, zf_ic 1, zf_ic2 .le 143, zf_ild 4, zf_ic 1, zf_bit zxor, zf_ist 5, zf_ild 5, zf_ald 0, zf_getI 19 15, zf_ic2 .ge 130, zf_ald 0, zf_ild 5, zf_ild 4, zf_ic2 .ge 93, zf_ic 0, zf_go 94], 93),
  (93, [zf_ic 1], 94),
  (94, [zf_inv h 19 28 1, zf_ic 0, zf_ist 6], 100),
  (100, [zf_ild 6, zf_ic 32, zf_ic2 .ge 130, zf_ald 0, zf_ald 0, zf_getR 19 16, zf_ic 32, zf_ild 5, zf_mul, zf_ild 6, zf_add, zf_aldI 100, zf_inv h 19 28 1, zf_inc 6 1, zf_go 100], 130),
  (130, [zf_ald 0, zf_inv h 19 12 0, zf_ild 4, zf_ic 2, zf_div, zf_ist 4, zf_go 58], 143),
  (143, [zf_ald 0, zf_getI 19 31, zf_reti], 148)]
theorem zT19_24 (h : Nat) : zTab h 19 24 7 (zt19_24 h) := zTab.mk (ret := (some .int)) (bl := xk19_24) (by decide +kernel) (by decide +kernel) rfl rfl
def zt19_27 (h : Nat) : ZB := [(0, [zf_ald 0, zf_ald 0, zf_ild 1, zf_inv h 19 18 1, zf_if .eq 23, zf_ild 2, zf_if .lt 23, zf_ild 2, zf_ic 32, zf_ic2 .ge 23, zf_ic 0, zf_go 24], 23),
  (23, [zf_ic 1], 24),
  (24, [zf_putI 19 0, zf_ald 0, zf_getI 19 0, zf_if .ne 48, zf_ald 0, zf_getR 19 14, zf_ic 32, zf_ild 1, zf_mul, zf_ild 2, zf_add, zf_aldI 100, zf_go 49], 48),
  (48, [zf_ic 0], 49),
  (49, [zf_reti], 50)]
theorem zT19_27 (h : Nat) : zTab h 19 27 3 (zt19_27 h) := zTab.mk (ret := (some .int)) (bl := xk19_27) (by decide +kernel) (by decide +kernel) rfl rfl
def zt19_33 (h : Nat) : ZB := [(0, [zf_ald 0, zf_getI 19 0, zf_reti], 5)]
theorem zT19_33 (h : Nat) : zTab h 19 33 1 (zt19_33 h) := zTab.mk (ret := (some .int)) (bl := xk19_33) (by decide +kernel) (by decide +kernel) rfl rfl
def zt19_35 (h : Nat) : ZB := [(0, [zf_ald 0, zf_ald 0, zf_ild 1, zf_inv h 19 18 1, zf_if .eq 13, zf_ic 0, zf_go 14], 13),
  (13, [zf_ic 1], 14),
  (14, [zf_putI 19 0, zf_ald 0, zf_getI 19 0, zf_if .eq 26, zf_ic 0, zf_reti], 26),
  (26, [zf_ald 0, zf_getR 19 20, zf_ild 1, zf_aldB, zf_if .eq 37, zf_ic (-1), zf_reti], 37),
  (37, [zf_ald 0, zf_getR 19 20, zf_ild 1, zf_ic 1, zf_astB, zf_ald 0, zf_dup, zf_getI 19 21, zf_ic 1, zf_add, zf_putI 19 21, zf_ald 0, zf_ild 1, zf_ic 2, zf_ic (-1), zf_ic (-1), zf_inv h 19 22 4, zf_ald 0, zf_getI 19 21, zf_reti], 67)]
theorem zT19_35 (h : Nat) : zTab h 19 35 2 (zt19_35 h) := zTab.mk (ret := (some .int)) (bl := xk19_35) (by decide +kernel) (by decide +kernel) rfl rfl
def zt20_0 (h : Nat) : ZB := [(0, [zf_ald 0, zf_ild 1, zf_inv h 20 25 1, zf_ist 4, zf_ild 4, zf_ild 1, zf_ic2 .ne 20, zf_ald 0, zf_ild 1, zf_inv h 20 9 1, zf_ic (-1), zf_reti], 20),
  (20, [zf_ald 0, zf_ild 1, zf_ild 4, zf_inv h 20 21 2, zf_ist 5, zf_ild 2, zf_ic (-1), zf_ic2 .ne 47, zf_ild 5, zf_if .ne 43, zf_ic 1, zf_go 53], 43),
  (43, [zf_ic 0, zf_go 53], 47),
  (47, [zf_ild 5, zf_ild 2, zf_inst h 20 4 2], 53),
  (53, [zf_ist 6, zf_ild 6, zf_if .eq 70, zf_ald 0, zf_getI 20 17, zf_ic 200, zf_ic2 .ne 77], 70),
  (70, [zf_ald 0, zf_ild 1, zf_inv h 20 9 1, zf_ic (-1), zf_reti], 77),
  (77, [zf_ald 0, zf_ic 0, zf_putI 20 20, zf_ald 0, zf_ic 0, zf_putI 20 21, zf_ald 0, zf_getI 20 15, zf_if .eq 114, zf_ald 0, zf_ald 0, zf_getI 20 17, zf_ild 5, zf_inv h 20 1 2, zf_ald 0, zf_getR 20 6, zf_ald 0, zf_getI 20 17, zf_ild 3, zf_astI], 114),
  (114, [zf_ild 5, zf_reti], 117)]
theorem zT20_0 (h : Nat) : zTab h 20 0 7 (zt20_0 h) := zTab.mk (ret := (some .int)) (bl := xk20_0) (by decide +kernel) (by decide +kernel) rfl rfl
def zt20_2 (h : Nat) : ZB := [(0, [zf_ild 1, zf_ist 2], 2),
  (2, [zf_ald 0, zf_ild 2, zf_inv h 20 3 1, zf_inst h 20 15 1, zf_if .eq 19, zf_inc 2 1, zf_go 2], 19),
  (19, [zf_ild 2, zf_reti], 21)]
theorem zT20_2 (h : Nat) : zTab h 20 2 3 (zt20_2 h) := zTab.mk (ret := (some .int)) (bl := xk20_2) (by decide +kernel) (by decide +kernel) rfl rfl
def zt20_3 (h : Nat) : ZB := [(0, [zf_ild 1, zf_ald 0, zf_getI 20 3, zf_ic2 .ge 17, zf_ald 0, zf_getR 20 2, zf_ild 1, zf_aldI 100, zf_go 18], 17),
  (17, [zf_ic (-1)], 18),
  (18, [zf_reti], 19)]
theorem zT20_3 (h : Nat) : zTab h 20 3 2 (zt20_3 h) := zTab.mk (ret := (some .int)) (bl := xk20_3) (by decide +kernel) (by decide +kernel) rfl rfl
def zt20_6 (h : Nat) : ZB := [(0, [zf_ald 0, zf_ic 0, zf_putI 20 0, zf_ald 0, zf_ic 0, zf_putI 20 3, zf_ret], 11)]
theorem zT20_6 (h : Nat) : zTab h 20 6 1 (zt20_6 h) := zTab.mk (ret := none) (bl := xk20_6) (by decide +kernel) (by decide +kernel) rfl rfl
def zt20_8 (h : Nat) : ZB := [(0, [zf_ild 1, zf_ist 2], 2),
  (2, [zf_ald 0, zf_ild 2, zf_inv h 20 3 1, zf_ic 46, zf_ic2 .ne 18, zf_inc 2 1, zf_go 2], 18),
  (18, [zf_ild 2, zf_ild 1, zf_sub, zf_reti], 22)]
theorem zT20_8 (h : Nat) : zTab h 20 8 3 (zt20_8 h) := zTab.mk (ret := (some .int)) (bl := xk20_8) (by decide +kernel) (by decide +kernel) rfl rfl
def zt20_9 (h : Nat) : ZB := [(0, [zf_ald 0, zf_getI 20 18, zf_ic (-1), zf_ic2 .ne 13, zf_ald 0, zf_ild 1, zf_putI 20 18], 13),
  (13, [zf_ret], 14)]
theorem zT20_9 (h : Nat) : zTab h 20 9 2 (zt20_9 h) := zTab.mk (ret := none) (bl := xk20_9) (by decide +kernel) (by decide +kernel) rfl rfl
def zt20_13 (h : Nat) : ZB := [(0, [zf_ald 0, zf_ild 1, zf_putZ 20 15, zf_ald 0, zf_ic (-1), zf_putI 20 18, zf_ald 0, zf_ic 0, zf_putI 20 17, zf_ald 0, zf_ic 0, zf_putI 20 22, zf_ald 0, zf_getI 20 1, zf_if .ne 34, zf_ald 0, zf_inv h 20 35 0, zf_go 38], 34),
  (34, [zf_ald 0, zf_inv h 20 34 0], 38),
  (38, [zf_ret], 39)]
theorem zT20_13 (h : Nat) : zTab h 20 13 2 (zt20_13 h) := zTab.mk (ret := none) (bl := xk20_13) (by decide +kernel) (by decide +kernel) rfl rfl
def zt20_15 (h : Nat) : ZB := [(0, [zf_ild 0, zf_ic 32, zf_ic2 .eq 12, zf_ild 0, zf_ic 10, zf_ic2 .ne 16], 12),
  (12, [zf_ic 1, zf_go 17], 16),
  (16, [zf_ic 0], 17),
  (17, [zf_retz], 18)]
theorem zT20_15 (h : Nat) : zTab h 20 15 1 (zt20_15 h) := zTab.mk (ret := (some .boolean)) (bl := xk20_15) (by decide +kernel) (by decide +kernel) rfl rfl
def zt20_18 (h : Nat) : ZB := [(0, [zf_ild 0, zf_ic 97, zf_ic2 .lt 16, zf_ild 0, zf_ic 122, zf_ic2 .gt 16, zf_ic 1, zf_go 17], 16),
  (16, [zf_ic 0], 17),
  (17, [zf_retz], 18)]
theorem zT20_18 (h : Nat) : zTab h 20 18 1 (zt20_18 h) := zTab.mk (ret := (some .boolean)) (bl := xk20_18) (by decide +kernel) (by decide +kernel) rfl rfl
def zt20_25 (h : Nat) : ZB := [(0, [zf_ild 1, zf_ist 2], 2),
  (2, [zf_ald 0, zf_ild 2, zf_inv h 20 3 1, zf_inst h 20 18 1, zf_if .eq 19, zf_inc 2 1, zf_go 2], 19),
  (19, [zf_ild 2, zf_reti], 21)]
theorem zT20_25 (h : Nat) : zTab h 20 25 3 (zt20_25 h) := zTab.mk (ret := (some .int)) (bl := xk20_25) (by decide +kernel) (by decide +kernel) rfl rfl
def zt20_32 (h : Nat) : ZB := [(0, [zf_ald 0, zf_ic 0, zf_putI 20 0, zf_ald 0, zf_ic 0, zf_inv h 20 13 1, zf_ald 0, zf_getI 20 18, zf_ic (-1), zf_ic2 .eq 25, zf_ic (-1), zf_ald 0, zf_getI 20 18, zf_sub, zf_reti], 25),
  (25, [zf_ald 0, zf_ic 1, zf_inv h 20 13 1, zf_ald 0, zf_ald 0, zf_getI 20 17, zf_putI 20 4, zf_ald 0, zf_ald 0, zf_getI 20 22, zf_putI 20 13, zf_ald 0, zf_ald 0, zf_getI 20 16, zf_putI 20 14, zf_ald 0, zf_ic 1, zf_putZ 20 27, zf_ald 0, zf_getI 20 4, zf_reti], 64)]
theorem zT20_32 (h : Nat) : zTab h 20 32 1 (zt20_32 h) := zTab.mk (ret := (some .int)) (bl := xk20_32) (by decide +kernel) (by decide +kernel) rfl rfl
def zt20_33 (h : Nat) : ZB := [(0, [zf_ild 1, zf_ild 2, zf_add, zf_ist 3, zf_ald 0, zf_ild 3, zf_ild 2, zf_if .ne 14, zf_ic (-1), zf_go 22], 14),
  (14, [zf_ald 0, zf_getR 20 24, zf_ild 2, zf_ic 1, zf_sub, zf_aldI 100], 22),
  (22, [zf_ild 2, zf_if .ne 30, zf_ic (-1), zf_go 38], 30),
  (30, [zf_ald 0, zf_getR 20 23, zf_ild 2, zf_ic 1, zf_sub, zf_aldI 100], 38),
  (38, [zf_inv h 20 0 3, zf_ist 4, zf_ild 4, zf_ic (-1), zf_ic2 .ne 51, zf_ild 1, zf_reti], 51),
  (51, [zf_ald 0, zf_ild 3, zf_inv h 20 25 1, zf_ist 5, zf_ild 4, zf_ic 9, zf_ic2 .ne 72, zf_ald 0, zf_ild 3, zf_ild 2, zf_inv h 20 38 2, zf_reti], 72),
  (72, [zf_ild 4, zf_if .ne 87, zf_ald 0, zf_ild 5, zf_ic 0, zf_inv h 20 40 2, zf_go 96], 87),
  (87, [zf_ald 0, zf_ild 4, zf_ild 5, zf_ic 0, zf_inv h 20 54 3], 96),
  (96, [zf_ist 5, zf_ald 0, zf_ild 5, zf_inv h 20 3 1, zf_ic 10, zf_ic2 .eq 115, zf_ald 0, zf_ild 5, zf_inv h 20 9 1], 115),
  (115, [zf_ald 0, zf_getR 20 23, zf_ild 2, zf_ald 0, zf_getI 20 17, zf_astI, zf_ald 0, zf_getR 20 24, zf_ild 2, zf_ild 4, zf_astI, zf_ald 0, zf_ild 2, zf_putI 20 30, zf_ald 0, zf_dup, zf_getI 20 17, zf_ic 1, zf_add, zf_putI 20 17, zf_ild 5, zf_ic 1, zf_add, zf_reti], 153)]
theorem zT20_33 (h : Nat) : zTab h 20 33 6 (zt20_33 h) := zTab.mk (ret := (some .int)) (bl := xk20_33) (by decide +kernel) (by decide +kernel) rfl rfl
def zt20_34 (h : Nat) : ZB := [(0, [zf_ic 0, zf_ist 1, zf_ald 0, zf_ic (-1), zf_putI 20 30], 7),
  (7, [zf_ald 0, zf_getI 20 18, zf_ic (-1), zf_ic2 .ne 84, zf_ild 1, zf_ald 0, zf_getI 20 3, zf_ic2 .lt 27, zf_ild 1, zf_if .ne 84], 27),
  (27, [zf_ald 0, zf_ild 1, zf_inv h 20 8 1, zf_ist 2, zf_ild 2, zf_ald 0, zf_getI 20 30, zf_ic 1, zf_add, zf_ic2 .le 58, zf_ald 0, zf_ild 1, zf_ald 0, zf_getI 20 30, zf_add, zf_ic 1, zf_add, zf_inv h 20 9 1, zf_go 81], 58),
  (58, [zf_ild 2, zf_if .ne 74, zf_ild 1, zf_if .le 74, zf_ald 0, zf_ild 1, zf_inv h 20 9 1, zf_go 81], 74),
  (74, [zf_ald 0, zf_ild 1, zf_ild 2, zf_inv h 20 33 2, zf_ist 1], 81),
  (81, [zf_go 7], 84),
  (84, [zf_ret], 85)]
theorem zT20_34 (h : Nat) : zTab h 20 34 3 (zt20_34 h) := zTab.mk (ret := none) (bl := xk20_34) (by decide +kernel) (by decide +kernel) rfl rfl
def zt20_35 (h : Nat) : ZB := [(0, [zf_ald 0, zf_ic 0, zf_inv h 20 2 1, zf_ist 1, zf_ald 0, zf_ic 0, zf_putI 20 29, zf_ald 0, zf_ild 1, zf_inv h 20 3 1, zf_ic 40, zf_ic2 .eq 26, zf_ald 0, zf_ild 1, zf_inv h 20 9 1], 26),
  (26, [zf_ald 0, zf_getI 20 18, zf_ic (-1), zf_ic2 .ne 41, zf_ald 0, zf_ild 1, zf_ic 0, zf_inv h 20 28 2, zf_ist 1], 41),
  (41, [zf_ald 0, zf_getI 20 18, zf_ic (-1), zf_ic2 .ne 119, zf_ald 0, zf_getI 20 29, zf_if .le 119, zf_ald 0, zf_ild 1, zf_inv h 20 2 1, zf_ist 1, zf_ald 0, zf_ild 1, zf_inv h 20 3 1, zf_ic 40, zf_ic2 .ne 85, zf_ald 0, zf_ild 1, zf_ald 0, zf_getI 20 29, zf_inv h 20 28 2, zf_ist 1, zf_go 41], 85),
  (85, [zf_ald 0, zf_ild 1, zf_inv h 20 3 1, zf_ic 41, zf_ic2 .ne 111, zf_ald 0, zf_dup, zf_getI 20 29, zf_ic 1, zf_sub, zf_putI 20 29, zf_inc 1 1, zf_go 41], 111),
  (111, [zf_ald 0, zf_ild 1, zf_inv h 20 9 1, zf_go 41], 119),
  (119, [zf_ald 0, zf_ild 1, zf_inv h 20 2 1, zf_ist 1, zf_ild 1, zf_ald 0, zf_getI 20 3, zf_ic2 .ge 138, zf_ald 0, zf_ild 1, zf_inv h 20 9 1], 138),
  (138, [zf_ret], 139)]
theorem zT20_35 (h : Nat) : zTab h 20 35 2 (zt20_35 h) := zTab.mk (ret := none) (bl := xk20_35) (by decide +kernel) (by decide +kernel) rfl rfl
def zt21_0 (h : Nat) : ZB := [(0, [zf_ald 0, zf_getR 21 31, zf_nnl 9, zf_ic (-1), zf_reti], 9),
  (9, [zf_ald 0, zf_getR 21 31, zf_ild 1, zf_ild 2, zf_ild 3, zf_inv h 15 15 3, zf_ist 4, zf_ald 0, zf_getR 21 31, zf_inv h 15 25 0, zf_if .ne 36, zf_ild 4, zf_go 37], 36),
  (36, [zf_ic (-1)], 37),
  (37, [zf_reti], 38)]
theorem zT21_0 (h : Nat) : zTab h 21 0 5 (zt21_0 h) := zTab.mk (ret := (some .int)) (bl := xk21_0) (by decide +kernel) (by decide +kernel) rfl rfl
def zt21_1 (h : Nat) : ZB := [(0, [zf_ald 0, zf_getR 21 50, zf_ild 1, zf_ild 2, zf_ild 3, zf_inv h 19 0 3, zf_ist 4, zf_ald 0, zf_getR 21 50, zf_inv h 19 33 0, zf_if .ne 31, zf_ald 0, zf_ild 4, zf_inv h 21 12 1, zf_go 36], 31),
  (31, [zf_ald 0, zf_ic 2, zf_inv h 21 47 1], 36),
  (36, [zf_reti], 37)]
theorem zT21_1 (h : Nat) : zTab h 21 1 5 (zt21_1 h) := zTab.mk (ret := (some .int)) (bl := xk21_1) (by decide +kernel) (by decide +kernel) rfl rfl
def zt21_2 (h : Nat) : ZB := [(0, [zf_ald 0, zf_ald 0, zf_getR 21 12, zf_nnl 12, zf_ic 3, zf_go 31], 12),
  (12, [zf_ald 0, zf_getR 21 12, zf_ild 1, zf_ild 2, zf_ild 3, zf_inv h 17 4 3, zf_ic (-1), zf_ic2 .ne 30, zf_ic 2, zf_go 31], 30),
  (30, [zf_ic 0], 31),
  (31, [zf_inv h 21 48 1, zf_if .eq 39, zf_ic 0, zf_retz], 39),
  (39, [zf_ald 0, zf_ald 0, zf_getR 21 12, zf_ild 1, zf_ild 2, zf_ild 3, zf_inv h 17 1 3, zf_if .eq 57, zf_ic 0, zf_go 58], 57),
  (57, [zf_ic 4], 58),
  (58, [zf_inv h 21 48 1, zf_if .ne 68, zf_ic 1, zf_go 69], 68),
  (68, [zf_ic 0], 69),
  (69, [zf_retz], 70)]
theorem zT21_2 (h : Nat) : zTab h 21 2 4 (zt21_2 h) := zTab.mk (ret := (some .boolean)) (bl := xk21_2) (by decide +kernel) (by decide +kernel) rfl rfl
def zt21_3 (h : Nat) : ZB := [(0, [zf_ald 0, zf_getR 21 12, zf_nnl 9, zf_ic (-1), zf_reti], 9),
  (9, [zf_ald 0, zf_getR 21 12, zf_ild 1, zf_ild 2, zf_inv h 17 2 2, zf_ist 3, zf_ald 0, zf_getR 21 12, zf_inv h 17 32 0, zf_if .ne 33, zf_ild 3, zf_go 34], 33),
  (33, [zf_ic (-1)], 34),
  (34, [zf_reti], 35)]
theorem zT21_3 (h : Nat) : zTab h 21 3 4 (zt21_3 h) := zTab.mk (ret := (some .int)) (bl := xk21_3) (by decide +kernel) (by decide +kernel) rfl rfl
def zt21_4 (h : Nat) : ZB := [(0, [zf_ald 0, zf_getR 21 7, zf_nnl 13, zf_ald 0, zf_ic 3, zf_inv h 21 47 1, zf_reti], 13),
  (13, [zf_ald 0, zf_getI 21 14, zf_ic 6, zf_ic2 .ne 28, zf_ald 0, zf_ic 1, zf_inv h 21 47 1, zf_reti], 28),
  (28, [zf_ald 0, zf_new 17 25, zf_dup, zf_ild 1, zf_ild 2, zf_ild 3, zf_lld 4, zf_ins h 17 11 4, zf_putR 21 12, zf_ald 0, zf_ald 0, zf_getR 21 7, zf_putR 21 13, zf_ald 0, zf_ic 0, zf_putI 21 15, zf_ald 0, zf_ic 0, zf_putI 21 22, zf_ald 0, zf_dup, zf_getI 21 14, zf_ic 1, zf_add, zf_putI 21 14, zf_ald 0, zf_ald 0, zf_getI 21 14, zf_ic 1, zf_sub, zf_inv h 21 12 1, zf_reti], 83)]
theorem zT21_4 (h : Nat) : zTab h 21 4 6 (zt21_4 h) := zTab.mk (ret := (some .int)) (bl := xk21_4) (by decide +kernel) (by decide +kernel) rfl rfl
def zt21_5 (h : Nat) : ZB := [(0, [zf_ald 0, zf_getR 21 50, zf_ild 1, zf_ild 2, zf_inv h 19 17 2, zf_if .ne 14, zf_ic (-1), zf_reti], 14),
  (14, [zf_ic 8, zf_ild 1, zf_mul, zf_ild 2, zf_add, zf_ist 5, zf_ald 0, zf_getR 21 50, zf_inv h 19 6 0, zf_ald 0, zf_getR 21 50, zf_ild 1, zf_inv h 19 4 1, zf_if .eq 112, zf_ald 0, zf_getR 21 50, zf_ald 0, zf_getR 21 50, zf_getR 19 10, zf_ild 5, zf_aldI 100, zf_ic 256, zf_div, zf_inv h 19 4 1, zf_if .eq 112, zf_ald 0, zf_getR 21 50, zf_ald 0, zf_getR 21 50, zf_getR 19 10, zf_ild 5, zf_aldI 100, zf_ic 256, zf_rem, zf_inv h 19 4 1, zf_if .eq 112, zf_ald 0, zf_getR 21 50, zf_ald 0, zf_getR 21 50, zf_getR 19 11, zf_ild 5, zf_aldI 100, zf_inv h 19 4 1, zf_if .eq 112, zf_ic 1, zf_go 113], 112),
  (112, [zf_ic 0], 113),
  (113, [zf_ist 6, zf_ic 0, zf_ist 7], 118),
  (118, [zf_ild 7, zf_ald 0, zf_getR 21 50, zf_getR 19 11, zf_ild 5, zf_aldI 100, zf_ic2 .ge 164, zf_ald 0, zf_getR 21 50, zf_ald 0, zf_getR 21 50, zf_getR 19 12, zf_ic 64, zf_ild 5, zf_mul, zf_ild 7, zf_add, zf_aldI 100, zf_inv h 19 4 1, zf_ist 6, zf_inc 7 1, zf_go 118], 164),
  (164, [zf_ic 0, zf_ist 7], 167),
  (167, [zf_ald 0, zf_getR 21 50, zf_ild 1, zf_ild 2, zf_ild 7, zf_inv h 19 24 3, zf_ic (-1), zf_ic2 .eq 208, zf_ald 0, zf_getR 21 50, zf_ald 0, zf_getR 21 50, zf_ild 1, zf_ild 2, zf_ild 7, zf_inv h 19 24 3, zf_inv h 19 4 1, zf_ist 6, zf_inc 7 1, zf_go 167], 208),
  (208, [zf_ild 3, zf_ic (-1), zf_ic2 .lt 224, zf_ild 3, zf_ald 0, zf_getR 21 50, zf_getI 19 17, zf_ic2 .lt 226], 224),
  (224, [zf_ic (-1), zf_reti], 226),
  (226, [zf_ild 3, zf_ic (-1), zf_ic2 .eq 243, zf_ald 0, zf_getR 21 50, zf_ild 3, zf_ild 4, zf_inv h 19 23 2, zf_ist 6], 243),
  (243, [zf_ald 0, zf_getR 21 50, zf_inv h 19 5 0, zf_reti], 251)]
theorem zT21_5 (h : Nat) : zTab h 21 5 8 (zt21_5 h) := zTab.mk (ret := (some .int)) (bl := xk21_5) (by decide +kernel) (by decide +kernel) rfl rfl
def zt21_6 (h : Nat) : ZB := [(0, [zf_ald 0, zf_getR 21 31, zf_nnl 9, zf_ic (-1), zf_reti], 9),
  (9, [zf_ald 0, zf_getR 21 31, zf_ild 1, zf_inv h 15 16 1, zf_ist 2, zf_ald 0, zf_getR 21 31, zf_inv h 15 25 0, zf_if .ne 32, zf_ild 2, zf_go 33], 32),
  (32, [zf_ic (-1)], 33),
  (33, [zf_reti], 34)]
theorem zT21_6 (h : Nat) : zTab h 21 6 3 (zt21_6 h) := zTab.mk (ret := (some .int)) (bl := xk21_6) (by decide +kernel) (by decide +kernel) rfl rfl
def zt21_7 (h : Nat) : ZB := [(0, [zf_ald 0, zf_ald 0, zf_getR 21 12, zf_nnl 12, zf_ic 3, zf_go 13], 12),
  (12, [zf_ic 0], 13),
  (13, [zf_inv h 21 48 1, zf_if .eq 21, zf_ic 0, zf_retz], 21),
  (21, [zf_ald 0, zf_getR 21 12, zf_ild 1, zf_ild 2, zf_ild 3, zf_ild 4, zf_inv h 17 6 4, zf_ist 5, zf_ald 0, zf_ald 0, zf_getR 21 12, zf_inv h 17 32 0, zf_if .ne 50, zf_ic 0, zf_go 51], 50),
  (50, [zf_ic 2], 51),
  (51, [zf_inv h 21 48 1, zf_if .ne 61, zf_ic 1, zf_go 62], 61),
  (61, [zf_ic 0], 62),
  (62, [zf_retz], 63)]
theorem zT21_7 (h : Nat) : zTab h 21 7 6 (zt21_7 h) := zTab.mk (ret := (some .boolean)) (bl := xk21_7) (by decide +kernel) (by decide +kernel) rfl rfl
def zt21_8 (h : Nat) : ZB := [(0, [zf_ald 0, zf_getR 21 12, zf_nnl 11, zf_lc (-1), zf_retl], 11),
  (11, [zf_ald 0, zf_getR 21 12, zf_ild 1, zf_inv h 17 7 1, zf_lst 2, zf_ald 0, zf_getR 21 12, zf_inv h 17 32 0, zf_if .ne 34, zf_lld 2, zf_go 37], 34),
  (34, [zf_lc (-1)], 37),
  (37, [zf_retl], 38)]
theorem zT21_8 (h : Nat) : zTab h 21 8 4 (zt21_8 h) := zTab.mk (ret := (some .long)) (bl := xk21_8) (by decide +kernel) (by decide +kernel) rfl rfl
def zt21_9 (h : Nat) : ZB := [(0, [zf_ald 0, zf_ald 0, zf_getR 21 48, zf_getI 13 2, zf_if .eq 15, zf_ic 3, zf_go 48], 15),
  (15, [zf_ild 1, zf_if .lt 30, zf_ild 1, zf_ald 0, zf_getR 21 48, zf_getI 13 5, zf_ic2 .le 34], 30),
  (30, [zf_ic 2, zf_go 48], 34),
  (34, [zf_ald 0, zf_getI 21 49, zf_ic 16, zf_ic2 .ne 47, zf_ic 1, zf_go 48], 47),
  (47, [zf_ic 0], 48),
  (48, [zf_inv h 21 48 1, zf_if .eq 56, zf_ic 0, zf_retz], 56),
  (56, [zf_ald 0, zf_dup, zf_getI 21 49, zf_ic 1, zf_add, zf_putI 21 49, zf_ald 0, zf_getR 21 48, zf_ild 1, zf_inv h 13 3 1, zf_ist 2, zf_ic 1, zf_retz], 77)]
theorem zT21_9 (h : Nat) : zTab h 21 9 3 (zt21_9 h) := zTab.mk (ret := (some .boolean)) (bl := xk21_9) (by decide +kernel) (by decide +kernel) rfl rfl
def zt21_10 (h : Nat) : ZB := [(0, [zf_ald 0, zf_getR 21 12, zf_nnl 13, zf_ald 0, zf_ic 3, zf_inv h 21 47 1, zf_reti], 13),
  (13, [zf_ald 0, zf_getI 21 29, zf_ic 10, zf_ic2 .ne 28, zf_ald 0, zf_ic 1, zf_inv h 21 47 1, zf_reti], 28),
  (28, [zf_ald 0, zf_ic 0, zf_inv h 21 24 1, zf_ald 0, zf_getI 21 42, zf_ic 60, zf_ic2 .le 48, zf_ald 0, zf_ic 1, zf_inv h 21 47 1, zf_reti], 48),
  (48, [zf_ald 0, zf_dup, zf_getI 21 29, zf_ic 1, zf_add, zf_putI 21 29, zf_ald 0, zf_ald 0, zf_getI 21 14, zf_putI 21 30, zf_ald 0, zf_new 15 19, zf_dup, zf_ald 0, zf_getR 21 12, zf_getI 17 3, zf_ins h 15 7 1, zf_putR 21 31, zf_ald 0, zf_new 14 25, zf_dup, zf_ald 0, zf_getR 21 12, zf_getI 17 3, zf_ins h 14 9 1, zf_putR 21 32, zf_ald 0, zf_new 16 39, zf_dup, zf_ins h 16 9 0, zf_putR 21 43, zf_ald 0, zf_getR 21 43, zf_lc 300, zf_ic 1, zf_inv h 16 29 2, zf_ist 1, zf_ald 0, zf_ic 0, zf_putI 21 35, zf_ald 0, zf_ic 1, zf_inv h 21 24 1, zf_ic 0, zf_ist 2], 137),
  (137, [zf_ild 2, zf_ald 0, zf_getI 21 35, zf_ic2 .ge 166, zf_ald 0, zf_getR 21 39, zf_ild 2, zf_ald 0, zf_getR 21 43, zf_ic 0, zf_ild 2, zf_inv h 16 18 2, zf_astI, zf_inc 2 1, zf_go 137], 166),
  (166, [zf_ic 0, zf_ist 2], 168),
  (168, [zf_ild 2, zf_ald 0, zf_getI 21 24, zf_ic2 .ge 236, zf_ald 0, zf_getR 21 32, zf_ald 0, zf_getR 21 25, zf_ild 2, zf_aldI 100, zf_ic 3, zf_ic2 .ge 199, zf_ald 0, zf_getR 21 25, zf_ild 2, zf_aldI 100, zf_go 207], 199),
  (199, [zf_ald 0, zf_getR 21 25, zf_ild 2, zf_aldI 100, zf_ic 1, zf_add], 207),
  (207, [zf_ald 0, zf_getR 21 26, zf_ild 2, zf_aldI 100, zf_ald 0, zf_getR 21 27, zf_ild 2, zf_aldI 100, zf_ald 0, zf_getR 21 28, zf_ild 2, zf_aldI 100, zf_i2l, zf_inv h 14 29 4, zf_ist 1, zf_inc 2 1, zf_go 168], 236),
  (236, [zf_ald 0, zf_ald 0, zf_getR 21 32, zf_ic 1, zf_lc 0, zf_inv h 14 31 2, zf_putI 21 33, zf_ald 0, zf_ald 0, zf_getR 21 12, zf_ic 0, zf_inv h 17 22 1, zf_ic (-1), zf_ic2 .ne 283, zf_ald 0, zf_getR 21 31, zf_inv h 15 24 0, zf_if .ne 283, zf_ald 0, zf_getI 21 33, zf_if .ne 283, zf_ic 1, zf_go 284], 283),
  (283, [zf_ic 0], 284),
  (284, [zf_putZ 21 34, zf_ic 0, zf_ist 2], 289),
  (289, [zf_ild 2, zf_ald 0, zf_getI 21 22, zf_ic2 .ge 330, zf_ald 0, zf_ald 0, zf_getI 21 34, zf_if .eq 320, zf_ald 0, zf_getR 21 31, zf_ild 2, zf_inv h 15 19 1, zf_if .ne 320, zf_ic 1, zf_go 321], 320),
  (320, [zf_ic 0], 321),
  (321, [zf_putZ 21 34, zf_inc 2 1, zf_go 289], 330),
  (330, [zf_ald 0, zf_ald 0, zf_getI 21 42, zf_inv h 21 12 1, zf_reti], 339)]
theorem zT21_10 (h : Nat) : zTab h 21 10 3 (zt21_10 h) := zTab.mk (ret := (some .int)) (bl := xk21_10) (by decide +kernel) (by decide +kernel) rfl rfl
def zt21_11 (h : Nat) : ZB := [(0, [zf_ald 0, zf_getR 21 47, zf_ild 1, zf_inv h 12 2 1, zf_reti], 9)]
theorem zT21_11 (h : Nat) : zTab h 21 11 2 (zt21_11 h) := zTab.mk (ret := (some .int)) (bl := xk21_11) (by decide +kernel) (by decide +kernel) rfl rfl
def zt21_12 (h : Nat) : ZB := [(0, [zf_ald 0, zf_ic 0, zf_putI 21 0, zf_ild 1, zf_reti], 7)]
theorem zT21_12 (h : Nat) : zTab h 21 12 2 (zt21_12 h) := zTab.mk (ret := (some .int)) (bl := xk21_12) (by decide +kernel) (by decide +kernel) rfl rfl
def zt21_14 (h : Nat) : ZB := [(0, [zf_ald 0, zf_getR 21 31, zf_nul 21, zf_ild 1, zf_if .lt 21, zf_ild 1, zf_ic 6, zf_ic2 .gt 21, zf_ild 2, zf_if .ge 23], 21),
  (21, [zf_ic (-1), zf_reti], 23),
  (23, [zf_ald 0, zf_ild 2, zf_putI 21 44, zf_ald 0, zf_ic (-1), zf_putI 21 46, zf_ald 0, zf_ild 1, zf_inv h 21 65 1, zf_ald 0, zf_getI 21 46, zf_reti], 43)]
theorem zT21_14 (h : Nat) : zTab h 21 14 3 (zt21_14 h) := zTab.mk (ret := (some .int)) (bl := xk21_14) (by decide +kernel) (by decide +kernel) rfl rfl
def zt21_15 (h : Nat) : ZB := [(0, [zf_ald 0, zf_ald 0, zf_getR 21 48, zf_getI 13 2, zf_if .eq 15, zf_ic 3, zf_go 16], 15),
  (15, [zf_ic 0], 16),
  (16, [zf_inv h 21 48 1, zf_if .eq 24, zf_ic 0, zf_retz], 24),
  (24, [zf_ald 0, zf_getR 21 48, zf_inv h 13 17 0, zf_ald 0, zf_ald 0, zf_getR 21 48, zf_ild 1, zf_inv h 13 9 1, zf_if .ne 47, zf_ic 2, zf_go 64], 47),
  (47, [zf_ald 0, zf_getR 21 48, zf_getR 13 18, zf_ild 1, zf_aldB, zf_if .eq 63, zf_ic 4, zf_go 64], 63),
  (63, [zf_ic 0], 64),
  (64, [zf_inv h 21 48 1, zf_if .eq 72, zf_ic 0, zf_retz], 72),
  (72, [zf_ald 0, zf_ald 0, zf_getR 21 48, zf_ild 1, zf_inv h 13 4 1, zf_if .eq 88, zf_ic 0, zf_go 89], 88),
  (88, [zf_ic 1], 89),
  (89, [zf_inv h 21 48 1, zf_if .ne 99, zf_ic 1, zf_go 100], 99),
  (99, [zf_ic 0], 100),
  (100, [zf_retz], 101)]
theorem zT21_15 (h : Nat) : zTab h 21 15 2 (zt21_15 h) := zTab.mk (ret := (some .boolean)) (bl := xk21_15) (by decide +kernel) (by decide +kernel) rfl rfl
def zt21_16 (h : Nat) : ZB := [(0, [zf_ald 0, zf_ild 1, zf_if .lt 13, zf_ild 1, zf_ald 0, zf_getI 21 2, zf_ic2 .le 17], 13),
  (13, [zf_ic 2, zf_go 18], 17),
  (17, [zf_ic 0], 18),
  (18, [zf_inv h 21 48 1, zf_if .eq 26, zf_ic 0, zf_retz], 26),
  (26, [zf_ald 0, zf_ild 1, zf_putI 21 2, zf_ic 1, zf_retz], 33)]
theorem zT21_16 (h : Nat) : zTab h 21 16 2 (zt21_16 h) := zTab.mk (ret := (some .boolean)) (bl := xk21_16) (by decide +kernel) (by decide +kernel) rfl rfl
def zt21_17 (h : Nat) : ZB := [(0, [zf_ald 0, zf_getR 21 47, zf_ild 1, zf_inv h 12 15 1, zf_ist 2, zf_ald 0, zf_getR 21 47, zf_inv h 12 53 0, zf_if .ne 23, zf_ild 2, zf_go 24], 23),
  (23, [zf_ic (-1)], 24),
  (24, [zf_reti], 25)]
theorem zT21_17 (h : Nat) : zTab h 21 17 3 (zt21_17 h) := zTab.mk (ret := (some .int)) (bl := xk21_17) (by decide +kernel) (by decide +kernel) rfl rfl
def zt21_18 (h : Nat) : ZB := [(0, [zf_ald 0, zf_getR 21 31, zf_nul 18, zf_ald 0, zf_getI 21 34, zf_if .eq 18, zf_ic 1, zf_go 19], 18),
  (18, [zf_ic 0], 19),
  (19, [zf_retz], 20)]
theorem zT21_18 (h : Nat) : zTab h 21 18 1 (zt21_18 h) := zTab.mk (ret := (some .boolean)) (bl := xk21_18) (by decide +kernel) (by decide +kernel) rfl rfl
def zt21_20 (h : Nat) : ZB := [(0, [zf_ald 0, zf_ald 0, zf_getR 21 12, zf_nnl 12, zf_ic 3, zf_go 13], 12),
  (12, [zf_ic 0], 13),
  (13, [zf_inv h 21 48 1, zf_if .eq 21, zf_ic 0, zf_retz], 21),
  (21, [zf_ald 0, zf_getR 21 47, zf_ic 0, zf_putI 12 28, zf_ic 0, zf_ist 1], 31),
  (31, [zf_ild 1, zf_ic 12, zf_ic2 .ge 88, zf_ald 0, zf_getR 21 47, zf_ic 0, zf_inv h 12 32 1, zf_ist 2, zf_ic 0, zf_ist 3, zf_ic 0, zf_ist 4], 51),
  (51, [zf_ild 4, zf_ic 6, zf_ic2 .ge 82, zf_ald 0, zf_getR 21 47, zf_ild 2, zf_ild 4, zf_ald 0, zf_ild 1, zf_ild 4, zf_inv h 21 19 2, zf_inv h 12 17 3, zf_ist 3, zf_inc 4 1, zf_go 51], 82),
  (82, [zf_inc 1 1, zf_go 31], 88),
  (88, [zf_ic 1, zf_retz], 90)]
theorem zT21_20 (h : Nat) : zTab h 21 20 5 (zt21_20 h) := zTab.mk (ret := (some .boolean)) (bl := xk21_20) (by decide +kernel) (by decide +kernel) rfl rfl
def zt21_21 (h : Nat) : ZB := [(0, [zf_ald 0, zf_ald 0, zf_getI 21 2, zf_ic 20, zf_add, zf_ic 4000, zf_ic2 .le 18, zf_ic 1, zf_go 19], 18),
  (18, [zf_ic 0], 19),
  (19, [zf_inv h 21 48 1, zf_if .eq 27, zf_ic 0, zf_retz], 27),
  (27, [zf_ald 0, zf_ild 1, zf_inv h 21 34 1, zf_ald 0, zf_ild 2, zf_inv h 21 34 1, zf_ald 0, zf_ild 3, zf_inv h 21 34 1, zf_ald 0, zf_ild 4, zf_inv h 21 34 1, zf_ald 0, zf_ild 5, zf_inv h 21 34 1, zf_ic 1, zf_retz], 56)]
theorem zT21_21 (h : Nat) : zTab h 21 21 6 (zt21_21 h) := zTab.mk (ret := (some .boolean)) (bl := xk21_21) (by decide +kernel) (by decide +kernel) rfl rfl
def zt21_33 (h : Nat) : ZB := [(0, [zf_ald 0, zf_getI 21 4, zf_ic (-1), zf_ic2 .ne 10, zf_ic (-1), zf_reti], 10),
  (10, [zf_ald 0, zf_getR 21 3, zf_ald 0, zf_getI 21 4, zf_aldR, zf_ild 1, zf_inv h 20 20 1, zf_ist 2, zf_ald 0, zf_getR 21 3, zf_ald 0, zf_getI 21 4, zf_aldR, zf_inv h 20 51 0, zf_if .ne 43, zf_ild 2, zf_go 44], 43),
  (43, [zf_ic (-1)], 44),
  (44, [zf_reti], 45)]
theorem zT21_33 (h : Nat) : zTab h 21 33 3 (zt21_33 h) := zTab.mk (ret := (some .int)) (bl := xk21_33) (by decide +kernel) (by decide +kernel) rfl rfl
def zt21_34 (h : Nat) : ZB := [(0, [zf_ic 24, zf_ist 2], 3),
  (3, [zf_ild 2, zf_if .lt 39, zf_ald 0, zf_getR 21 1, zf_ald 0, zf_getI 21 2, zf_ild 1, zf_ild 2, zf_bit zshr, zf_ic 255, zf_bit zand, zf_astI, zf_ald 0, zf_dup, zf_getI 21 2, zf_ic 1, zf_add, zf_putI 21 2, zf_inc 2 (-8), zf_go 3], 39),
  (39, [zf_ret], 40)]
theorem zT21_34 (h : Nat) : zTab h 21 34 3 (zt21_34 h) := zTab.mk (ret := none) (bl := xk21_34) (by decide +kernel) (by decide +kernel) rfl rfl
def zt21_36 (h : Nat) : ZB := [(0, [zf_ald 0, zf_getR 21 12, zf_nul 17, zf_ald 0, zf_getR 21 48, zf_getI 13 2, zf_if .eq 23], 17),
  (17, [zf_ald 0, zf_ic 3, zf_inv h 21 47 1, zf_reti], 23),
  (23, [zf_ald 0, zf_getR 21 48, zf_inv h 13 17 0, zf_ald 0, zf_getR 21 48, zf_ild 1, zf_inv h 13 9 1, zf_if .ne 47, zf_ald 0, zf_ic 2, zf_inv h 21 47 1, zf_reti], 47),
  (47, [zf_ic 0, zf_ist 2, zf_ic 0, zf_ist 3], 51),
  (51, [zf_ald 0, zf_ild 1, zf_ild 3, zf_inv h 21 63 2, zf_ic (-1), zf_ic2 .eq 125, zf_ald 0, zf_ild 1, zf_ild 3, zf_ic 3, zf_add, zf_inv h 21 63 2, zf_ist 4, zf_ild 2, zf_ald 0, zf_ald 0, zf_ild 1, zf_ild 3, zf_inv h 21 63 2, zf_ald 0, zf_ild 1, zf_ild 3, zf_ic 1, zf_add, zf_inv h 21 63 2, zf_ald 0, zf_ild 1, zf_ild 3, zf_ic 2, zf_add, zf_inv h 21 63 2, zf_ild 4, zf_ic 16, zf_rem, zf_ild 4, zf_ic 16, zf_div, zf_inv h 21 46 5, zf_ic (-1), zf_ic2 .ne 116, zf_ic 0, zf_go 117], 116),
  (116, [zf_ic 1], 117),
  (117, [zf_add, zf_ist 2, zf_inc 3 4, zf_go 51], 125),
  (125, [zf_ald 0, zf_ild 2, zf_inv h 21 12 1, zf_reti], 131)]
theorem zT21_36 (h : Nat) : zTab h 21 36 5 (zt21_36 h) := zTab.mk (ret := (some .int)) (bl := xk21_36) (by decide +kernel) (by decide +kernel) rfl rfl
def zt21_37 (h : Nat) : ZB := [(0, [zf_ald 0, zf_getR 21 7, zf_nnl 11, zf_ic (-1000), zf_reti], 11),
  (11, [zf_ald 0, zf_getR 21 7, zf_ild 1, zf_inv h 18 23 1, zf_ist 2, zf_ald 0, zf_getR 21 7, zf_inv h 18 33 0, zf_if .ne 34, zf_ild 2, zf_go 37], 34),
  (34, [zf_ic (-1000)], 37),
  (37, [zf_reti], 38)]
theorem zT21_37 (h : Nat) : zTab h 21 37 3 (zt21_37 h) := zTab.mk (ret := (some .int)) (bl := xk21_37) (by decide +kernel) (by decide +kernel) rfl rfl
def zt21_38 (h : Nat) : ZB := [(0, [zf_ald 0, zf_getR 21 7, zf_nnl 9, zf_ic (-1), zf_reti], 9),
  (9, [zf_ald 0, zf_getR 21 7, zf_ild 1, zf_ild 2, zf_inv h 18 26 2, zf_ist 3, zf_ald 0, zf_getR 21 7, zf_inv h 18 33 0, zf_if .ne 33, zf_ild 3, zf_go 34], 33),
  (33, [zf_ic (-1)], 34),
  (34, [zf_reti], 35)]
theorem zT21_38 (h : Nat) : zTab h 21 38 4 (zt21_38 h) := zTab.mk (ret := (some .int)) (bl := xk21_38) (by decide +kernel) (by decide +kernel) rfl rfl
def zt21_39 (h : Nat) : ZB := [(0, [zf_ald 0, zf_getR 21 7, zf_nnl 11, zf_ic 0, zf_go 18], 11),
  (11, [zf_ald 0, zf_getR 21 7, zf_inv h 18 27 0], 18),
  (18, [zf_reti], 19)]
theorem zT21_39 (h : Nat) : zTab h 21 39 1 (zt21_39 h) := zTab.mk (ret := (some .int)) (bl := xk21_39) (by decide +kernel) (by decide +kernel) rfl rfl
def zt21_41 (h : Nat) : ZB := [(0, [zf_ald 0, zf_getI 21 4, zf_ic (-1), zf_ic2 .ne 10, zf_lc 0, zf_retl], 10),
  (10, [zf_ald 0, zf_getR 21 3, zf_ald 0, zf_getI 21 4, zf_aldR, zf_ild 1, zf_ild 2, zf_inv h 20 27 2, zf_lst 3, zf_ald 0, zf_getR 21 3, zf_ald 0, zf_getI 21 4, zf_aldR, zf_inv h 20 51 0, zf_if .ne 44, zf_lld 3, zf_go 45], 44),
  (44, [zf_lc 0], 45),
  (45, [zf_retl], 46)]
theorem zT21_41 (h : Nat) : zTab h 21 41 5 (zt21_41 h) := zTab.mk (ret := (some .long)) (bl := xk21_41) (by decide +kernel) (by decide +kernel) rfl rfl
def zt21_42 (h : Nat) : ZB := [(0, [zf_ald 0, zf_getR 21 47, zf_ild 1, zf_inv h 12 35 1, zf_ist 2, zf_ald 0, zf_getR 21 47, zf_inv h 12 53 0, zf_if .ne 24, zf_ild 2, zf_i2l, zf_go 27], 24),
  (24, [zf_lc 1099511627776], 27),
  (27, [zf_retl], 28)]
theorem zT21_42 (h : Nat) : zTab h 21 42 3 (zt21_42 h) := zTab.mk (ret := (some .long)) (bl := xk21_42) (by decide +kernel) (by decide +kernel) rfl rfl
def zt21_44 (h : Nat) : ZB := [(0, [zf_ic 0, zf_ist 1, zf_ic 0, zf_ist 2], 4),
  (4, [zf_ild 2, zf_ald 0, zf_getI 21 2, zf_ic2 .ge 42, zf_ild 1, zf_ald 0, zf_getR 21 47, zf_ald 0, zf_getR 21 1, zf_ild 2, zf_aldI 100, zf_inv h 12 54 1, zf_if .eq 33, zf_ic 0, zf_go 34], 33),
  (33, [zf_ic 1], 34),
  (34, [zf_add, zf_ist 1, zf_inc 2 1, zf_go 4], 42),
  (42, [zf_ald 0, zf_ic 0, zf_putI 21 2, zf_ald 0, zf_getR 21 47, zf_inv h 12 39 0, zf_ist 2, zf_ald 0, zf_ild 2, zf_if .ge 64, zf_ic 2, zf_go 65], 64),
  (64, [zf_ic 0], 65),
  (65, [zf_putI 21 0, zf_ild 2, zf_if .ge 78, zf_ild 2, zf_ic 1, zf_sub, zf_go 79], 78),
  (78, [zf_ild 2], 79),
  (79, [zf_reti], 80)]
theorem zT21_44 (h : Nat) : zTab h 21 44 3 (zt21_44 h) := zTab.mk (ret := (some .int)) (bl := xk21_44) (by decide +kernel) (by decide +kernel) rfl rfl
def zt21_45 (h : Nat) : ZB := [(0, [zf_ald 0, zf_getR 21 50, zf_ild 1, zf_ild 2, zf_ild 3, zf_inv h 19 24 3, zf_ist 4, zf_ald 0, zf_getR 21 50, zf_inv h 19 33 0, zf_if .ne 27, zf_ild 4, zf_go 28], 27),
  (27, [zf_ic (-1)], 28),
  (28, [zf_reti], 29)]
theorem zT21_45 (h : Nat) : zTab h 21 45 5 (zt21_45 h) := zTab.mk (ret := (some .int)) (bl := xk21_45) (by decide +kernel) (by decide +kernel) rfl rfl
def zt21_46 (h : Nat) : ZB := [(0, [zf_ald 0, zf_getR 21 12, zf_nnl 13, zf_ald 0, zf_ic 3, zf_inv h 21 47 1, zf_reti], 13),
  (13, [zf_ald 0, zf_getR 21 13, zf_ild 1, zf_ild 2, zf_inv h 18 26 2, zf_ist 6, zf_ald 0, zf_getR 21 13, zf_inv h 18 33 0, zf_if .ne 50, zf_ald 0, zf_getR 21 12, zf_ild 3, zf_ild 4, zf_ild 5, zf_inv h 17 4 3, zf_ic (-1), zf_ic2 .ne 56], 50),
  (50, [zf_ald 0, zf_ic 2, zf_inv h 21 47 1, zf_reti], 56),
  (56, [zf_ald 0, zf_ild 1, zf_ild 2, zf_inv h 21 25 2, zf_if .eq 71, zf_ald 0, zf_ic 4, zf_inv h 21 47 1, zf_reti], 71),
  (71, [zf_ald 0, zf_ild 6, zf_inv h 21 56 1, zf_ist 7, zf_ald 0, zf_getI 21 15, zf_ic 40, zf_ic2 .eq 103, zf_ild 7, zf_ic (-1), zf_ic2 .ne 109, zf_ald 0, zf_getI 21 22, zf_ic 12, zf_ic2 .ne 109], 103),
  (103, [zf_ald 0, zf_ic 1, zf_inv h 21 47 1, zf_reti], 109),
  (109, [zf_ild 7, zf_ic (-1), zf_ic2 .ne 145, zf_ald 0, zf_getR 21 23, zf_ald 0, zf_getI 21 22, zf_ild 6, zf_astI, zf_ald 0, zf_getR 21 12, zf_inv h 17 20 0, zf_ist 7, zf_ald 0, zf_dup, zf_getI 21 22, zf_ic 1, zf_add, zf_putI 21 22], 145),
  (145, [zf_ald 0, zf_getR 21 12, zf_ild 7, zf_ild 3, zf_ild 4, zf_ild 5, zf_inv h 17 26 4, zf_if .ne 168, zf_ald 0, zf_ic 4, zf_inv h 21 47 1, zf_reti], 168),
  (168, [zf_ald 0, zf_getR 21 16, zf_ald 0, zf_getI 21 15, zf_ild 1, zf_astI, zf_ald 0, zf_getR 21 17, zf_ald 0, zf_getI 21 15, zf_ild 2, zf_astI, zf_ald 0, zf_getR 21 18, zf_ald 0, zf_getI 21 15, zf_ild 3, zf_astI, zf_ald 0, zf_getR 21 19, zf_ald 0, zf_getI 21 15, zf_ild 4, zf_astI, zf_ald 0, zf_getR 21 20, zf_ald 0, zf_getI 21 15, zf_ild 5, zf_astI, zf_ald 0, zf_getR 21 21, zf_ald 0, zf_getI 21 15, zf_ild 7, zf_astI, zf_ald 0, zf_dup, zf_getI 21 15, zf_ic 1, zf_add, zf_putI 21 15, zf_ald 0, zf_ald 0, zf_getI 21 15, zf_ic 1, zf_sub, zf_inv h 21 12 1, zf_reti], 252)]
theorem zT21_46 (h : Nat) : zTab h 21 46 8 (zt21_46 h) := zTab.mk (ret := (some .int)) (bl := xk21_46) (by decide +kernel) (by decide +kernel) rfl rfl
def zt21_47 (h : Nat) : ZB := [(0, [zf_ald 0, zf_ild 1, zf_putI 21 0, zf_ic (-1), zf_reti], 7)]
theorem zT21_47 (h : Nat) : zTab h 21 47 2 (zt21_47 h) := zTab.mk (ret := (some .int)) (bl := xk21_47) (by decide +kernel) (by decide +kernel) rfl rfl
def zt21_48 (h : Nat) : ZB := [(0, [zf_ald 0, zf_ild 1, zf_putI 21 0, zf_ild 1, zf_if .eq 13, zf_ic 1, zf_go 14], 13),
  (13, [zf_ic 0], 14),
  (14, [zf_retz], 15)]
theorem zT21_48 (h : Nat) : zTab h 21 48 2 (zt21_48 h) := zTab.mk (ret := (some .boolean)) (bl := xk21_48) (by decide +kernel) (by decide +kernel) rfl rfl
def zt21_49 (h : Nat) : ZB := [(0, [zf_ald 0, zf_getR 21 31, zf_nnl 13, zf_ald 0, zf_ic 3, zf_inv h 21 47 1, zf_reti], 13),
  (13, [zf_ald 0, zf_ic 0, zf_inv h 21 65 1, zf_ald 0, zf_getI 21 45, zf_ist 1, zf_ald 0, zf_getR 21 50, zf_inv h 19 20 0, zf_ic 10, zf_ic2 .eq 42, zf_ild 1, zf_ic 512, zf_ic2 .le 48], 42),
  (42, [zf_ald 0, zf_ic 1, zf_inv h 21 47 1, zf_reti], 48),
  (48, [zf_ald 0, zf_inv h 21 32 0, zf_if .ne 61, zf_ald 0, zf_ic 5, zf_inv h 21 47 1, zf_reti], 61),
  (61, [zf_ic 1, zf_ist 2, zf_ic 0, zf_ist 3], 65),
  (65, [zf_ild 3, zf_ild 1, zf_ic2 .ge 141, zf_ild 3, zf_ic 64, zf_rem, zf_if .ne 105, zf_ild 2, zf_if .eq 103, zf_ald 0, zf_getR 21 50, zf_ild 3, zf_ic 64, zf_div, zf_inv h 19 10 1, zf_ild 3, zf_ic 64, zf_div, zf_ic2 .ne 103, zf_ic 1, zf_go 104], 103),
  (103, [zf_ic 0], 104),
  (104, [zf_ist 2], 105),
  (105, [zf_ild 2, zf_if .eq 133, zf_ald 0, zf_getR 21 50, zf_ild 3, zf_ic 64, zf_div, zf_ald 0, zf_ic 0, zf_ild 3, zf_inv h 21 14 2, zf_inv h 19 3 2, zf_if .eq 133, zf_ic 1, zf_go 134], 133),
  (133, [zf_ic 0], 134),
  (134, [zf_ist 2, zf_inc 3 1, zf_go 65], 141),
  (141, [zf_ald 0, zf_ald 0, zf_getR 21 50, zf_inv h 19 7 0, zf_inv h 21 12 1, zf_reti], 153)]
theorem zT21_49 (h : Nat) : zTab h 21 49 4 (zt21_49 h) := zTab.mk (ret := (some .int)) (bl := xk21_49) (by decide +kernel) (by decide +kernel) rfl rfl
def zt21_50 (h : Nat) : ZB := [(0, [zf_ald 0, zf_getR 21 7, zf_nnl 11, zf_ic (-1), zf_go 19], 11),
  (11, [zf_ald 0, zf_getR 21 7, zf_ild 1, zf_inv h 18 34 1], 19),
  (19, [zf_reti], 20)]
theorem zT21_50 (h : Nat) : zTab h 21 50 2 (zt21_50 h) := zTab.mk (ret := (some .int)) (bl := xk21_50) (by decide +kernel) (by decide +kernel) rfl rfl
def zt21_51 (h : Nat) : ZB := [(0, [zf_ald 0, zf_getR 21 48, zf_getI 13 2, zf_if .eq 24, zf_ald 0, zf_ald 0, zf_getR 21 48, zf_inv h 13 11 0, zf_inv h 21 12 1, zf_go 29], 24),
  (24, [zf_ald 0, zf_ic 3, zf_inv h 21 47 1], 29),
  (29, [zf_reti], 30)]
theorem zT21_51 (h : Nat) : zTab h 21 51 1 (zt21_51 h) := zTab.mk (ret := (some .int)) (bl := xk21_51) (by decide +kernel) (by decide +kernel) rfl rfl
def zt21_53 (h : Nat) : ZB := [(0, [zf_ald 0, zf_getR 21 31, zf_nul 17, zf_ild 1, zf_if .lt 17, zf_ild 1, zf_ic 6, zf_ic2 .le 19], 17),
  (17, [zf_ic (-1), zf_reti], 19),
  (19, [zf_ald 0, zf_getR 21 40, zf_inv h 16 3 0, zf_ic 1, zf_ist 2, zf_ic 0, zf_ist 3], 30),
  (30, [zf_ald 0, zf_ild 1, zf_ild 3, zf_inv h 21 14 2, zf_ic (-1), zf_ic2 .eq 72, zf_ild 2, zf_if .eq 64, zf_ald 0, zf_getR 21 40, zf_ald 0, zf_ild 1, zf_ild 3, zf_inv h 21 14 2, zf_inv h 16 30 1, zf_if .eq 64, zf_ic 1, zf_go 65], 64),
  (64, [zf_ic 0], 65),
  (65, [zf_ist 2, zf_inc 3 1, zf_go 30], 72),
  (72, [zf_ald 0, zf_getR 21 40, zf_inv h 16 21 0, zf_ist 3, zf_ic 0, zf_ist 4, zf_ic 0, zf_ist 5], 86),
  (86, [zf_ild 5, zf_ald 0, zf_getI 21 35, zf_ic2 .ge 230, zf_ald 0, zf_getR 21 39, zf_ild 5, zf_aldI 100, zf_ist 6, zf_ald 0, zf_getR 21 36, zf_ild 6, zf_aldI 100, zf_ild 1, zf_ic2 .eq 118, zf_go 224], 118),
  (118, [zf_ild 2, zf_if .eq 219, zf_ild 4, zf_ild 3, zf_ic2 .ge 219, zf_ald 0, zf_getR 21 40, zf_ild 4, zf_ic 1, zf_inv h 16 2 2, zf_lc 1000, zf_ald 0, zf_getR 21 37, zf_ild 6, zf_aldI 100, zf_i2l, zf_lmul, zf_lcmp, zf_if .ne 219, zf_ald 0, zf_getR 21 40, zf_ild 4, zf_ic 2, zf_inv h 16 2 2, zf_lc 1000, zf_ald 0, zf_getR 21 38, zf_ild 6, zf_aldI 100, zf_i2l, zf_lmul, zf_lcmp, zf_if .ne 219, zf_ald 0, zf_getR 21 40, zf_ild 4, zf_ic 5, zf_inv h 16 2 2, zf_ild 1, zf_i2l, zf_lcmp, zf_if .ne 219, zf_ald 0, zf_getR 21 40, zf_ild 4, zf_ic 6, zf_inv h 16 2 2, zf_ild 1, zf_ic 1, zf_add, zf_i2l, zf_lcmp, zf_if .ne 219, zf_ic 1, zf_go 220], 219),
  (219, [zf_ic 0], 220),
  (220, [zf_ist 2, zf_inc 4 1], 224),
  (224, [zf_inc 5 1, zf_go 86], 230),
  (230, [zf_ild 2, zf_if .eq 244, zf_ild 4, zf_ild 3, zf_ic2 .ne 244, zf_ic 1, zf_go 245], 244),
  (244, [zf_ic 0], 245),
  (245, [zf_reti], 246)]
theorem zT21_53 (h : Nat) : zTab h 21 53 7 (zt21_53 h) := zTab.mk (ret := (some .int)) (bl := xk21_53) (by decide +kernel) (by decide +kernel) rfl rfl
def zt21_54 (h : Nat) : ZB := [(0, [zf_ald 0, zf_getR 21 50, zf_ild 1, zf_ild 2, zf_inv h 19 27 2, zf_ist 3, zf_ald 0, zf_getR 21 50, zf_inv h 19 33 0, zf_if .ne 24, zf_ild 3, zf_go 25], 24),
  (24, [zf_ic (-1)], 25),
  (25, [zf_reti], 26)]
theorem zT21_54 (h : Nat) : zTab h 21 54 4 (zt21_54 h) := zTab.mk (ret := (some .int)) (bl := xk21_54) (by decide +kernel) (by decide +kernel) rfl rfl
def zt21_55 (h : Nat) : ZB := [(0, [zf_ald 0, zf_getR 21 12, zf_nnl 13, zf_ald 0, zf_ic 3, zf_inv h 21 47 1, zf_reti], 13),
  (13, [zf_ald 0, zf_getR 21 12, zf_ild 1, zf_inv h 17 29 1, zf_ist 2, zf_ald 0, zf_getR 21 12, zf_inv h 17 32 0, zf_if .ne 40, zf_ald 0, zf_ild 2, zf_inv h 21 12 1, zf_go 45], 40),
  (40, [zf_ald 0, zf_ic 2, zf_inv h 21 47 1], 45),
  (45, [zf_reti], 46)]
theorem zT21_55 (h : Nat) : zTab h 21 55 3 (zt21_55 h) := zTab.mk (ret := (some .int)) (bl := xk21_55) (by decide +kernel) (by decide +kernel) rfl rfl
def zt21_58 (h : Nat) : ZB := [(0, [zf_ild 2, zf_ic (-1), zf_ic2 .lt 24, zf_ild 2, zf_ic 4, zf_ic2 .ge 24, zf_ild 3, zf_ic (-1), zf_ic2 .lt 24, zf_ild 3, zf_ic 4, zf_ic2 .ge 24, zf_ic 1, zf_go 25], 24),
  (24, [zf_ic 0], 25),
  (25, [zf_ist 5, zf_ild 1, zf_if .lt 63, zf_ild 1, zf_ic 4, zf_ic2 .gt 63, zf_ild 5, zf_if .eq 63, zf_ild 4, zf_if .lt 63, zf_ild 4, zf_ild 1, zf_ic 4, zf_ic2 .ne 57, zf_ic 0, zf_go 60], 57),
  (57, [zf_ic 100000], 60),
  (60, [zf_ic2 .le 69], 63),
  (63, [zf_ald 0, zf_ic 2, zf_inv h 21 47 1, zf_reti], 69),
  (69, [zf_ald 0, zf_getI 21 24, zf_ic 30, zf_ic2 .ne 84, zf_ald 0, zf_ic 1, zf_inv h 21 47 1, zf_reti], 84),
  (84, [zf_ald 0, zf_getR 21 25, zf_ald 0, zf_getI 21 24, zf_ild 1, zf_astI, zf_ald 0, zf_getR 21 26, zf_ald 0, zf_getI 21 24, zf_ild 2, zf_astI, zf_ald 0, zf_getR 21 27, zf_ald 0, zf_getI 21 24, zf_ild 3, zf_astI, zf_ald 0, zf_getR 21 28, zf_ald 0, zf_getI 21 24, zf_ild 4, zf_astI, zf_ald 0, zf_dup, zf_getI 21 24, zf_ic 1, zf_add, zf_putI 21 24, zf_ald 0, zf_ald 0, zf_getI 21 24, zf_ic 1, zf_sub, zf_inv h 21 12 1, zf_reti], 146)]
theorem zT21_58 (h : Nat) : zTab h 21 58 6 (zt21_58 h) := zTab.mk (ret := (some .int)) (bl := xk21_58) (by decide +kernel) (by decide +kernel) rfl rfl
def zt21_59 (h : Nat) : ZB := [(0, [zf_ald 0, zf_getR 21 47, zf_ild 1, zf_i2l, zf_inv h 12 48 1, zf_ist 2, zf_ald 0, zf_getR 21 47, zf_inv h 12 53 0, zf_if .ne 28, zf_ald 0, zf_ild 2, zf_inv h 21 12 1, zf_go 33], 28),
  (28, [zf_ald 0, zf_ic 2, zf_inv h 21 47 1], 33),
  (33, [zf_reti], 34)]
theorem zT21_59 (h : Nat) : zTab h 21 59 3 (zt21_59 h) := zTab.mk (ret := (some .int)) (bl := xk21_59) (by decide +kernel) (by decide +kernel) rfl rfl
def zt21_62 (h : Nat) : ZB := [(0, [zf_ald 0, zf_getR 21 12, zf_nul 17, zf_ald 0, zf_getR 21 48, zf_getI 13 2, zf_if .eq 23], 17),
  (17, [zf_ald 0, zf_ic 3, zf_inv h 21 47 1, zf_reti], 23),
  (23, [zf_ald 0, zf_inv h 21 26 0, zf_if .ne 36, zf_ald 0, zf_ic 1, zf_inv h 21 47 1, zf_reti], 36),
  (36, [zf_ic 0, zf_ist 1, zf_ic 0, zf_ist 2], 40),
  (40, [zf_ild 2, zf_ald 0, zf_getI 21 22, zf_ic2 .ge 77, zf_ald 0, zf_ild 2, zf_inv h 21 22 1, zf_ald 0, zf_getR 21 48, zf_getI 13 3, zf_if .le 71, zf_ald 0, zf_getR 21 48, zf_inv h 13 2 0, zf_ist 1], 71),
  (71, [zf_inc 2 1, zf_go 40], 77),
  (77, [zf_ald 0, zf_ald 0, zf_getR 21 48, zf_inv h 13 16 0, zf_inv h 21 12 1, zf_reti], 89)]
theorem zT21_62 (h : Nat) : zTab h 21 62 3 (zt21_62 h) := zTab.mk (ret := (some .int)) (bl := xk21_62) (by decide +kernel) (by decide +kernel) rfl rfl
def zt21_63 (h : Nat) : ZB := [(0, [zf_ald 0, zf_getR 21 48, zf_ild 1, zf_ild 2, zf_inv h 13 10 2, zf_ist 3, zf_ald 0, zf_getR 21 48, zf_inv h 13 15 0, zf_if .ne 24, zf_ild 3, zf_go 25], 24),
  (24, [zf_ic (-1)], 25),
  (25, [zf_reti], 26)]
theorem zT21_63 (h : Nat) : zTab h 21 63 4 (zt21_63 h) := zTab.mk (ret := (some .int)) (bl := xk21_63) (by decide +kernel) (by decide +kernel) rfl rfl
def zt21_68 (h : Nat) : ZB := [(0, [zf_ald 0, zf_getR 21 50, zf_ild 1, zf_inv h 19 18 1, zf_if .ne 17, zf_ald 0, zf_ic 2, zf_inv h 21 47 1, zf_reti], 17),
  (17, [zf_ald 0, zf_getR 21 50, zf_getI 19 22, zf_ic 60, zf_ic2 .ne 35, zf_ald 0, zf_ic 1, zf_inv h 21 47 1, zf_reti], 35),
  (35, [zf_ald 0, zf_getR 21 50, zf_ild 1, zf_inv h 19 29 1, zf_ist 2, zf_ild 2, zf_ic (-1), zf_ic2 .ne 57, zf_ald 0, zf_ic 5, zf_inv h 21 47 1, zf_go 62], 57),
  (57, [zf_ald 0, zf_ild 2, zf_inv h 21 12 1], 62),
  (62, [zf_reti], 63)]
theorem zT21_68 (h : Nat) : zTab h 21 68 3 (zt21_68 h) := zTab.mk (ret := (some .int)) (bl := xk21_68) (by decide +kernel) (by decide +kernel) rfl rfl
def zt21_70 (h : Nat) : ZB := [(0, [zf_ild 1, zf_if .lt 9, zf_ild 1, zf_ic 1, zf_ic2 .le 15], 9),
  (9, [zf_ald 0, zf_ic 2, zf_inv h 21 47 1, zf_reti], 15),
  (15, [zf_ald 0, zf_getI 21 5, zf_ic 24, zf_ic2 .eq 32, zf_ald 0, zf_getI 21 6, zf_ic 4, zf_ic2 .ne 38], 32),
  (32, [zf_ald 0, zf_ic 1, zf_inv h 21 47 1, zf_reti], 38),
  (38, [zf_ald 0, zf_dup, zf_getI 21 5, zf_ic 1, zf_add, zf_putI 21 5, zf_ald 0, zf_getR 21 3, zf_ild 1, zf_aldR, zf_ast 2, zf_ald 2, zf_inv h 20 6 0, zf_ic 0, zf_ist 3, zf_ic 0, zf_ist 4], 64),
  (64, [zf_ild 4, zf_ald 0, zf_getI 21 2, zf_ic2 .ge 101, zf_ild 3, zf_ald 2, zf_ald 0, zf_getR 21 1, zf_ild 4, zf_aldI 100, zf_inv h 20 52 1, zf_if .eq 92, zf_ic 0, zf_go 93], 92),
  (92, [zf_ic 1], 93),
  (93, [zf_add, zf_ist 3, zf_inc 4 1, zf_go 64], 101),
  (101, [zf_ald 0, zf_ic 0, zf_putI 21 2, zf_ald 2, zf_inv h 20 32 0, zf_ist 4, zf_ild 4, zf_if .ge 127, zf_ald 0, zf_ic 2, zf_putI 21 0, zf_ild 4, zf_ic 1, zf_sub, zf_reti], 127),
  (127, [zf_ald 0, zf_ild 1, zf_putI 21 4, zf_ald 0, zf_dup, zf_getI 21 6, zf_ic 1, zf_add, zf_putI 21 6, zf_ald 0, zf_new 18 33, zf_dup, zf_ins h 18 5 0, zf_putR 21 7, zf_ald 0, zf_ald 2, zf_inv h 21 13 1, zf_ald 0, zf_ild 4, zf_inv h 21 12 1, zf_reti], 165)]
theorem zT21_70 (h : Nat) : zTab h 21 70 5 (zt21_70 h) := zTab.mk (ret := (some .int)) (bl := xk21_70) (by decide +kernel) (by decide +kernel) rfl rfl
def zt21_71 (h : Nat) : ZB := [(0, [zf_ald 0, zf_getR 21 31, zf_nnl 11, zf_ic (-1), zf_go 18], 11),
  (11, [zf_ald 0, zf_getR 21 31, zf_inv h 15 24 0], 18),
  (18, [zf_reti], 19)]
theorem zT21_71 (h : Nat) : zTab h 21 71 1 (zt21_71 h) := zTab.mk (ret := (some .int)) (bl := xk21_71) (by decide +kernel) (by decide +kernel) rfl rfl
def zt21_72 (h : Nat) : ZB := [(0, [zf_ald 0, zf_getR 21 48, zf_getI 13 2, zf_if .eq 16, zf_ald 0, zf_ic 3, zf_inv h 21 47 1, zf_reti], 16),
  (16, [zf_ald 0, zf_getR 21 48, zf_getI 13 5, zf_ic 400, zf_ic2 .ne 35, zf_ald 0, zf_ic 1, zf_inv h 21 47 1, zf_reti], 35),
  (35, [zf_ald 0, zf_ald 0, zf_getR 21 48, zf_inv h 13 13 0, zf_inv h 21 12 1, zf_reti], 47)]
theorem zT21_72 (h : Nat) : zTab h 21 72 1 (zt21_72 h) := zTab.mk (ret := (some .int)) (bl := xk21_72) (by decide +kernel) (by decide +kernel) rfl rfl
def zt21_74 (h : Nat) : ZB := [(0, [zf_ald 0, zf_getI 21 0, zf_reti], 5)]
theorem zT21_74 (h : Nat) : zTab h 21 74 1 (zt21_74 h) := zTab.mk (ret := (some .int)) (bl := xk21_74) (by decide +kernel) (by decide +kernel) rfl rfl
def zt21_75 (h : Nat) : ZB := [(0, [zf_ald 0, zf_getR 21 31, zf_nul 28, zf_ild 1, zf_if .lt 28, zf_ild 1, zf_ald 0, zf_getI 21 33, zf_ic2 .ge 28, zf_ild 2, zf_if .lt 28, zf_ild 2, zf_ic 2, zf_ic2 .le 30], 28),
  (28, [zf_ic (-1), zf_reti], 30),
  (30, [zf_ald 0, zf_getR 21 32, zf_ild 1, zf_ild 2, zf_inv h 14 35 2, zf_ist 3, zf_ild 2, zf_if .ne 55, zf_ild 3, zf_ic 3, zf_ic2 .le 55, zf_ild 3, zf_ic 1, zf_sub, zf_go 56], 55),
  (55, [zf_ild 3], 56),
  (56, [zf_reti], 57)]
theorem zT21_75 (h : Nat) : zTab h 21 75 4 (zt21_75 h) := zTab.mk (ret := (some .int)) (bl := xk21_75) (by decide +kernel) (by decide +kernel) rfl rfl
def zt21_76 (h : Nat) : ZB := [(0, [zf_ald 0, zf_getR 21 31, zf_nnl 11, zf_ic (-1), zf_go 15], 11),
  (11, [zf_ald 0, zf_getI 21 33], 15),
  (15, [zf_reti], 16)]
theorem zT21_76 (h : Nat) : zTab h 21 76 1 (zt21_76 h) := zTab.mk (ret := (some .int)) (bl := xk21_76) (by decide +kernel) (by decide +kernel) rfl rfl
def zt21_77 (h : Nat) : ZB := [(0, [zf_ald 0, zf_getR 21 12, zf_nnl 9, zf_ic (-1), zf_reti], 9),
  (9, [zf_ald 0, zf_getR 21 12, zf_ild 1, zf_ild 2, zf_ild 3, zf_inv h 17 25 3, zf_ist 4, zf_ald 0, zf_getR 21 12, zf_inv h 17 32 0, zf_if .ne 36, zf_ild 4, zf_go 37], 36),
  (36, [zf_ic (-1)], 37),
  (37, [zf_reti], 38)]
theorem zT21_77 (h : Nat) : zTab h 21 77 5 (zt21_77 h) := zTab.mk (ret := (some .int)) (bl := xk21_77) (by decide +kernel) (by decide +kernel) rfl rfl
def zt21_79 (h : Nat) : ZB := [(0, [zf_ald 0, zf_getR 21 50, zf_ild 1, zf_inv h 19 35 1, zf_ist 2, zf_ald 0, zf_ald 0, zf_getR 21 50, zf_inv h 19 33 0, zf_if .eq 24, zf_ic 2, zf_go 34], 24),
  (24, [zf_ild 2, zf_ic (-1), zf_ic2 .ne 33, zf_ic 4, zf_go 34], 33),
  (33, [zf_ic 0], 34),
  (34, [zf_inv h 21 48 1, zf_if .ne 44, zf_ic 1, zf_go 45], 44),
  (44, [zf_ic 0], 45),
  (45, [zf_retz], 46)]
theorem zT21_79 (h : Nat) : zTab h 21 79 3 (zt21_79 h) := zTab.mk (ret := (some .boolean)) (bl := xk21_79) (by decide +kernel) (by decide +kernel) rfl rfl
def zt21_80 (h : Nat) : ZB := [(0, [zf_ald 0, zf_getI 21 4, zf_ic (-1), zf_ic2 .eq 12, zf_ild 1, zf_if .ge 16], 12),
  (12, [zf_ic (-1), zf_go 29], 16),
  (16, [zf_ald 0, zf_getR 21 3, zf_ald 0, zf_getI 21 4, zf_aldR, zf_ild 1, zf_inv h 20 55 1], 29),
  (29, [zf_reti], 30)]
theorem zT21_80 (h : Nat) : zTab h 21 80 2 (zt21_80 h) := zTab.mk (ret := (some .int)) (bl := xk21_80) (by decide +kernel) (by decide +kernel) rfl rfl
