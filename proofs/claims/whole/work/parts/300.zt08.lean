/-! TABLES of what methods of class 8 ask -/
def zt8_0 (h : Nat) : ZB := [(0, [zf_ild 1, zf_ist 2], 2),
  (2, [zf_ild 2, zf_ald 0, zf_getI 8 1, zf_ic2 .ge 27, zf_ald 0, zf_getR 8 0, zf_ild 2, zf_aldI 104, zf_ic 59, zf_ic2 .eq 27, zf_inc 2 1, zf_go 2], 27),
  (27, [zf_ild 2, zf_ic 1, zf_add, zf_reti], 31)]
theorem zT8_0 (h : Nat) : zTab h 8 0 3 (zt8_0 h) := zTab.mk (ret := (some .int)) (bl := xk8_0) (by decide +kernel) (by decide +kernel) rfl rfl
def zt8_1 (h : Nat) : ZB := [(0, [zf_ild 1, zf_if .lt 21, zf_ild 1, zf_ald 0, zf_getI 8 1, zf_ic2 .ge 21, zf_ald 0, zf_getR 8 5, zf_ild 1, zf_aldI 100, zf_go 25], 21),
  (21, [zf_ald 0, zf_getI 8 1], 25),
  (25, [zf_reti], 26)]
theorem zT8_1 (h : Nat) : zTab h 8 1 2 (zt8_1 h) := zTab.mk (ret := (some .int)) (bl := xk8_1) (by decide +kernel) (by decide +kernel) rfl rfl
def zt8_2 (h : Nat) : ZB := [(0, [zf_ald 0, zf_getI 8 3, zf_ic (-1), zf_ic2 .ne 13, zf_ald 0, zf_ild 1, zf_putI 8 3], 13),
  (13, [zf_ret], 14)]
theorem zT8_2 (h : Nat) : zTab h 8 2 2 (zt8_2 h) := zTab.mk (ret := none) (bl := xk8_2) (by decide +kernel) (by decide +kernel) rfl rfl
def zt8_3 (h : Nat) : ZB := [(0, [zf_ald 0, zf_ild 2, zf_ic 400, zf_min, zf_ald 1, zf_len, zf_min, zf_putI 8 1, zf_ic 0, zf_ist 3], 18),
  (18, [zf_ild 3, zf_ald 0, zf_getI 8 1, zf_ic2 .ge 41, zf_ald 0, zf_getR 8 0, zf_ild 3, zf_ald 1, zf_ild 3, zf_aldI 104, zf_astC, zf_inc 3 1, zf_go 18], 41),
  (41, [zf_ald 0, zf_ic 0, zf_putI 8 2, zf_ald 0, zf_ic (-1), zf_putI 8 3, zf_ald 0, zf_ic 0, zf_putI 8 4, zf_ic 0, zf_ist 3], 58),
  (58, [zf_ild 3, zf_ic 26, zf_ic2 .ge 77, zf_ald 0, zf_getR 8 6, zf_ild 3, zf_ic (-1), zf_astI, zf_inc 3 1, zf_go 58], 77),
  (77, [zf_ald 0, zf_ic 0, zf_ic (-1), zf_inv h 8 20 2, zf_ald 0, zf_getI 8 3, zf_reti], 88)]
theorem zT8_3 (h : Nat) : zTab h 8 3 4 (zt8_3 h) := zTab.mk (ret := (some .int)) (bl := xk8_3) (by decide +kernel) (by decide +kernel) rfl rfl
def zt8_4 (h : Nat) : ZB := [(0, [zf_ild 1, zf_inst h 8 7 1, zf_if .eq 19, zf_ald 0, zf_getR 8 6, zf_ild 1, zf_ic 65, zf_sub, zf_aldI 100, zf_go 20], 19),
  (19, [zf_ic (-1)], 20),
  (20, [zf_reti], 21)]
theorem zT8_4 (h : Nat) : zTab h 8 4 2 (zt8_4 h) := zTab.mk (ret := (some .int)) (bl := xk8_4) (by decide +kernel) (by decide +kernel) rfl rfl
def zt8_6 (h : Nat) : ZB := [(0, [zf_ild 0, zf_ic 48, zf_ic2 .lt 16, zf_ild 0, zf_ic 57, zf_ic2 .gt 16, zf_ic 1, zf_go 17], 16),
  (16, [zf_ic 0], 17),
  (17, [zf_retz], 18)]
theorem zT8_6 (h : Nat) : zTab h 8 6 1 (zt8_6 h) := zTab.mk (ret := (some .boolean)) (bl := xk8_6) (by decide +kernel) (by decide +kernel) rfl rfl
def zt8_7 (h : Nat) : ZB := [(0, [zf_ild 0, zf_ic 65, zf_ic2 .lt 16, zf_ild 0, zf_ic 90, zf_ic2 .gt 16, zf_ic 1, zf_go 17], 16),
  (16, [zf_ic 0], 17),
  (17, [zf_retz], 18)]
theorem zT8_7 (h : Nat) : zTab h 8 7 1 (zt8_7 h) := zTab.mk (ret := (some .boolean)) (bl := xk8_7) (by decide +kernel) (by decide +kernel) rfl rfl
def zt8_8 (h : Nat) : ZB := [(0, [zf_ald 0, zf_getI 8 3, zf_ic (-1), zf_ic2 .ne 24, zf_ald 0, zf_ald 0, zf_getI 8 2, zf_inv h 8 10 1, zf_ild 1, zf_ic2 .ne 24, zf_ic 1, zf_go 25], 24),
  (24, [zf_ic 0], 25),
  (25, [zf_retz], 26)]
theorem zT8_8 (h : Nat) : zTab h 8 8 2 (zt8_8 h) := zTab.mk (ret := (some .boolean)) (bl := xk8_8) (by decide +kernel) (by decide +kernel) rfl rfl
def zt8_9 (h : Nat) : ZB := [(0, [zf_ild 0, zf_ic 97, zf_ic2 .lt 16, zf_ild 0, zf_ic 122, zf_ic2 .gt 16, zf_ic 1, zf_go 17], 16),
  (16, [zf_ic 0], 17),
  (17, [zf_retz], 18)]
theorem zT8_9 (h : Nat) : zTab h 8 9 1 (zt8_9 h) := zTab.mk (ret := (some .boolean)) (bl := xk8_9) (by decide +kernel) (by decide +kernel) rfl rfl
def zt8_10 (h : Nat) : ZB := [(0, [zf_ild 1, zf_if .lt 21, zf_ild 1, zf_ald 0, zf_getI 8 1, zf_ic2 .ge 21, zf_ald 0, zf_getR 8 0, zf_ild 1, zf_aldI 104, zf_go 22], 21),
  (21, [zf_ic (-1)], 22),
  (22, [zf_reti], 23)]
theorem zT8_10 (h : Nat) : zTab h 8 10 2 (zt8_10 h) := zTab.mk (ret := (some .int)) (bl := xk8_10) (by decide +kernel) (by decide +kernel) rfl rfl
def zt8_11 (h : Nat) : ZB := [(0, [zf_ald 0, zf_getI 8 3, zf_ic (-1), zf_ic2 .ne 19, zf_ald 0, zf_ald 0, zf_getI 8 2, zf_inv h 8 10 1, zf_go 20], 19),
  (19, [zf_ic (-1)], 20),
  (20, [zf_ist 2, zf_ild 2, zf_inst h 8 6 1, zf_if .eq 68, zf_ic 0, zf_ist 3], 30),
  (30, [zf_ild 3, zf_ic 4, zf_ic2 .ge 65, zf_ald 0, zf_ald 0, zf_getI 8 2, zf_inv h 8 10 1, zf_inst h 8 6 1, zf_if .eq 65, zf_ald 0, zf_dup, zf_getI 8 2, zf_ic 1, zf_add, zf_putI 8 2, zf_inc 3 1, zf_go 30], 65),
  (65, [zf_go 142], 68),
  (68, [zf_ild 2, zf_inst h 8 9 1, zf_if .ne 81, zf_ild 2, zf_ic 35, zf_ic2 .ne 94], 81),
  (81, [zf_ald 0, zf_dup, zf_getI 8 2, zf_ic 1, zf_add, zf_putI 8 2, zf_go 142], 94),
  (94, [zf_ild 1, zf_ic 3, zf_ic2 .ge 134, zf_ild 2, zf_ic 45, zf_ic2 .eq 123, zf_ild 2, zf_ic 40, zf_ic2 .eq 123, zf_ild 2, zf_ic 64, zf_ic2 .eq 123, zf_ild 2, zf_ic 39, zf_ic2 .ne 134], 123),
  (123, [zf_ald 0, zf_ild 2, zf_ild 1, zf_ic 1, zf_add, zf_inv h 8 14 2, zf_go 142], 134),
  (134, [zf_ald 0, zf_ald 0, zf_getI 8 2, zf_inv h 8 2 1], 142),
  (142, [zf_ret], 143)]
theorem zT8_11 (h : Nat) : zTab h 8 11 4 (zt8_11 h) := zTab.mk (ret := none) (bl := xk8_11) (by decide +kernel) (by decide +kernel) rfl rfl
def zt8_12 (h : Nat) : ZB := [(0, [zf_ald 0, zf_ild 2, zf_inv h 8 8 1, zf_if .eq 13, zf_ild 1, zf_ic 2, zf_ic2 .lt 22], 13),
  (13, [zf_ald 0, zf_ald 0, zf_getI 8 2, zf_inv h 8 2 1, zf_ret], 22),
  (22, [zf_ald 0, zf_getI 8 2, zf_ist 4, zf_ald 0, zf_dup, zf_getI 8 2, zf_ic 1, zf_add, zf_putI 8 2, zf_ald 0, zf_ild 1, zf_ic 1, zf_add, zf_ild 3, zf_inv h 8 20 2, zf_ald 0, zf_getR 8 5, zf_ild 4, zf_ald 0, zf_getI 8 2, zf_astI, zf_ald 0, zf_ild 3, zf_inv h 8 22 1, zf_ret], 63)]
theorem zT8_12 (h : Nat) : zTab h 8 12 5 (zt8_12 h) := zTab.mk (ret := none) (bl := xk8_12) (by decide +kernel) (by decide +kernel) rfl rfl
def zt8_13 (h : Nat) : ZB := [(0, [zf_ild 1, zf_ic 91, zf_ic2 .ne 16, zf_ald 0, zf_ild 2, zf_ic 91, zf_ic 93, zf_inv h 8 12 3, zf_ret], 16),
  (16, [zf_ald 0, zf_getI 8 2, zf_ist 3, zf_ald 0, zf_dup, zf_getI 8 2, zf_ic 1, zf_add, zf_putI 8 2, zf_ild 1, zf_ic 58, zf_ic2 .ne 44, zf_ald 0, zf_ild 2, zf_ild 3, zf_inv h 8 17 2, zf_ret], 44),
  (44, [zf_ild 1, zf_ic 126, zf_ic2 .eq 55, zf_ald 0, zf_ic 0, zf_inv h 8 15 1], 55),
  (55, [zf_ald 0, zf_ild 2, zf_ic 123, zf_ic 125, zf_inv h 8 12 3, zf_ild 1, zf_ic 126, zf_ic2 .eq 85, zf_ild 1, zf_ic 63, zf_ic2 .ne 94, zf_ald 0, zf_ic 123, zf_inv h 8 8 1, zf_if .eq 94], 85),
  (85, [zf_ald 0, zf_ild 2, zf_ic 123, zf_ic 125, zf_inv h 8 12 3], 94),
  (94, [zf_ret], 95)]
theorem zT8_13 (h : Nat) : zTab h 8 13 4 (zt8_13 h) := zTab.mk (ret := none) (bl := xk8_13) (by decide +kernel) (by decide +kernel) rfl rfl
def zt8_14 (h : Nat) : ZB := [(0, [zf_ald 0, zf_dup, zf_getI 8 2, zf_ic 1, zf_add, zf_putI 8 2, zf_ild 1, zf_ic 40, zf_ic2 .ne 28, zf_ald 0, zf_ild 2, zf_inv h 8 15 1, zf_ald 0, zf_ic 41, zf_inv h 8 22 1, zf_ret], 28),
  (28, [zf_ald 0, zf_ild 2, zf_inv h 8 11 1, zf_ild 1, zf_ic 64, zf_ic2 .ne 43, zf_ald 0, zf_inv h 8 16 0], 43),
  (43, [zf_ret], 44)]
theorem zT8_14 (h : Nat) : zTab h 8 14 3 (zt8_14 h) := zTab.mk (ret := none) (bl := xk8_14) (by decide +kernel) (by decide +kernel) rfl rfl
def zt8_15 (h : Nat) : ZB := [(0, [zf_ald 0, zf_ild 1, zf_inv h 8 21 1, zf_ald 0, zf_ic 60, zf_inv h 8 8 1, zf_if .ne 23, zf_ald 0, zf_ic 61, zf_inv h 8 8 1, zf_if .eq 38], 23),
  (23, [zf_ald 0, zf_dup, zf_getI 8 2, zf_ic 1, zf_add, zf_putI 8 2, zf_ald 0, zf_ild 1, zf_inv h 8 21 1], 38),
  (38, [zf_ret], 39)]
theorem zT8_15 (h : Nat) : zTab h 8 15 2 (zt8_15 h) := zTab.mk (ret := none) (bl := xk8_15) (by decide +kernel) (by decide +kernel) rfl rfl
def zt8_16 (h : Nat) : ZB := [(0, [zf_ald 0, zf_ic 58, zf_inv h 8 22 1, zf_ald 0, zf_ald 0, zf_getI 8 2, zf_inv h 8 10 1, zf_ist 1, zf_ild 1, zf_ic 48, zf_ic2 .lt 40, zf_ild 1, zf_ic 53, zf_ic2 .gt 40, zf_ald 0, zf_dup, zf_getI 8 2, zf_ic 1, zf_add, zf_putI 8 2, zf_go 48], 40),
  (40, [zf_ald 0, zf_ald 0, zf_getI 8 2, zf_inv h 8 2 1], 48),
  (48, [zf_ret], 49)]
theorem zT8_16 (h : Nat) : zTab h 8 16 2 (zt8_16 h) := zTab.mk (ret := none) (bl := xk8_16) (by decide +kernel) (by decide +kernel) rfl rfl
def zt8_17 (h : Nat) : ZB := [(0, [zf_ald 0, zf_ald 0, zf_getI 8 2, zf_inv h 8 10 1, zf_ist 3, zf_ild 3, zf_inst h 8 7 1, zf_if .ne 25, zf_ald 0, zf_ald 0, zf_getI 8 2, zf_inv h 8 2 1, zf_ret], 25),
  (25, [zf_ild 1, zf_if .gt 38, zf_ald 0, zf_ild 3, zf_inv h 8 4 1, zf_ic (-1), zf_ic2 .eq 44], 38),
  (38, [zf_ald 0, zf_ild 2, zf_inv h 8 2 1, zf_ret], 44),
  (44, [zf_ald 0, zf_dup, zf_getI 8 2, zf_ic 1, zf_add, zf_putI 8 2, zf_ald 0, zf_getR 8 6, zf_ild 3, zf_ic 65, zf_sub, zf_ald 0, zf_getI 8 2, zf_astI, zf_ald 0, zf_ild 1, zf_ic 123, zf_ic 125, zf_inv h 8 12 3, zf_ret], 77)]
theorem zT8_17 (h : Nat) : zTab h 8 17 4 (zt8_17 h) := zTab.mk (ret := none) (bl := xk8_17) (by decide +kernel) (by decide +kernel) rfl rfl
def zt8_18 (h : Nat) : ZB := [(0, [zf_ald 0, zf_ild 1, zf_inv h 8 11 1, zf_ic 0, zf_ist 2], 7),
  (7, [zf_ild 2, zf_ic 400, zf_ic2 .ge 62, zf_ald 0, zf_ic 42, zf_inv h 8 8 1, zf_if .ne 41, zf_ald 0, zf_ic 47, zf_inv h 8 8 1, zf_if .ne 41, zf_ald 0, zf_ic 37, zf_inv h 8 8 1, zf_if .eq 62], 41),
  (41, [zf_ald 0, zf_dup, zf_getI 8 2, zf_ic 1, zf_add, zf_putI 8 2, zf_ald 0, zf_ild 1, zf_inv h 8 11 1, zf_inc 2 1, zf_go 7], 62),
  (62, [zf_ret], 63)]
theorem zT8_18 (h : Nat) : zTab h 8 18 3 (zt8_18 h) := zTab.mk (ret := none) (bl := xk8_18) (by decide +kernel) (by decide +kernel) rfl rfl
def zt8_19 (h : Nat) : ZB := [(0, [zf_ald 0, zf_ald 0, zf_getI 8 2, zf_inv h 8 10 1, zf_ist 2, zf_ald 0, zf_getI 8 4, zf_ic 100, zf_ic2 .lt 26, zf_ald 0, zf_ald 0, zf_getI 8 2, zf_inv h 8 2 1], 26),
  (26, [zf_ald 0, zf_dup, zf_getI 8 4, zf_ic 1, zf_add, zf_putI 8 4, zf_ild 2, zf_ic 63, zf_ic2 .eq 66, zf_ild 2, zf_ic 42, zf_ic2 .eq 66, zf_ild 2, zf_ic 126, zf_ic2 .eq 66, zf_ild 2, zf_ic 91, zf_ic2 .eq 66, zf_ild 2, zf_ic 58, zf_ic2 .ne 73], 66),
  (66, [zf_ald 0, zf_ild 2, zf_ild 1, zf_inv h 8 13 2, zf_ret], 73),
  (73, [zf_ild 2, zf_inst h 8 9 1, zf_if .eq 104, zf_ald 0, zf_dup, zf_getI 8 2, zf_ic 1, zf_add, zf_putI 8 2, zf_ald 0, zf_ic 61, zf_inv h 8 22 1, zf_ald 0, zf_ic 0, zf_inv h 8 15 1, zf_go 237], 104),
  (104, [zf_ild 2, zf_inst h 8 7 1, zf_if .eq 124, zf_ald 0, zf_dup, zf_getI 8 2, zf_ic 1, zf_add, zf_putI 8 2, zf_go 237], 124),
  (124, [zf_ild 2, zf_ic 64, zf_ic2 .eq 136, zf_ild 2, zf_ic 39, zf_ic2 .ne 175], 136),
  (136, [zf_ald 0, zf_dup, zf_getI 8 2, zf_ic 1, zf_add, zf_putI 8 2, zf_ald 0, zf_ic 0, zf_inv h 8 11 1, zf_ild 2, zf_ic 64, zf_ic2 .ne 161, zf_ald 0, zf_inv h 8 16 0], 161),
  (161, [zf_ald 0, zf_ic 61, zf_inv h 8 22 1, zf_ald 0, zf_ic 0, zf_inv h 8 15 1, zf_go 237], 175),
  (175, [zf_ild 2, zf_ic 33, zf_ic2 .eq 211, zf_ild 2, zf_ic 94, zf_ic2 .eq 211, zf_ild 2, zf_ic 43, zf_ic2 .eq 211, zf_ild 2, zf_ic 38, zf_ic2 .eq 211, zf_ild 2, zf_ic 124, zf_ic2 .eq 211, zf_ild 2, zf_ic 60, zf_ic2 .ne 229], 211),
  (211, [zf_ald 0, zf_dup, zf_getI 8 2, zf_ic 1, zf_add, zf_putI 8 2, zf_ald 0, zf_ic 0, zf_inv h 8 15 1, zf_go 237], 229),
  (229, [zf_ald 0, zf_ald 0, zf_getI 8 2, zf_inv h 8 2 1], 237),
  (237, [zf_ald 0, zf_ic 59, zf_inv h 8 22 1, zf_ret], 244)]
theorem zT8_19 (h : Nat) : zTab h 8 19 3 (zt8_19 h) := zTab.mk (ret := none) (bl := xk8_19) (by decide +kernel) (by decide +kernel) rfl rfl
def zt8_20 (h : Nat) : ZB := [(0, [zf_ic 0, zf_ist 3], 2),
  (2, [zf_ild 3, zf_ic 400, zf_ic2 .gt 66, zf_ald 0, zf_getI 8 3, zf_ic (-1), zf_ic2 .ne 66, zf_ald 0, zf_ald 0, zf_getI 8 2, zf_inv h 8 10 1, zf_ild 2, zf_ic2 .eq 66, zf_ald 0, zf_ald 0, zf_getI 8 2, zf_inv h 8 10 1, zf_ic 10, zf_ic2 .ne 55, zf_ald 0, zf_dup, zf_getI 8 2, zf_ic 1, zf_add, zf_putI 8 2, zf_go 60], 55),
  (55, [zf_ald 0, zf_ild 1, zf_inv h 8 19 1], 60),
  (60, [zf_inc 3 1, zf_go 2], 66),
  (66, [zf_ret], 67)]
theorem zT8_20 (h : Nat) : zTab h 8 20 4 (zt8_20 h) := zTab.mk (ret := none) (bl := xk8_20) (by decide +kernel) (by decide +kernel) rfl rfl
def zt8_21 (h : Nat) : ZB := [(0, [zf_ald 0, zf_ild 1, zf_inv h 8 18 1, zf_ic 0, zf_ist 2], 7),
  (7, [zf_ild 2, zf_ic 400, zf_ic2 .ge 53, zf_ald 0, zf_ic 43, zf_inv h 8 8 1, zf_if .ne 32, zf_ald 0, zf_ic 45, zf_inv h 8 8 1, zf_if .eq 53], 32),
  (32, [zf_ald 0, zf_dup, zf_getI 8 2, zf_ic 1, zf_add, zf_putI 8 2, zf_ald 0, zf_ild 1, zf_inv h 8 18 1, zf_inc 2 1, zf_go 7], 53),
  (53, [zf_ret], 54)]
theorem zT8_21 (h : Nat) : zTab h 8 21 3 (zt8_21 h) := zTab.mk (ret := none) (bl := xk8_21) (by decide +kernel) (by decide +kernel) rfl rfl
def zt8_22 (h : Nat) : ZB := [(0, [zf_ald 0, zf_getI 8 3, zf_ic (-1), zf_ic2 .ne 33, zf_ald 0, zf_ald 0, zf_getI 8 2, zf_inv h 8 10 1, zf_ild 1, zf_ic2 .ne 33, zf_ald 0, zf_dup, zf_getI 8 2, zf_ic 1, zf_add, zf_putI 8 2, zf_go 41], 33),
  (33, [zf_ald 0, zf_ald 0, zf_getI 8 2, zf_inv h 8 2 1], 41),
  (41, [zf_ret], 42)]
theorem zT8_22 (h : Nat) : zTab h 8 22 2 (zt8_22 h) := zTab.mk (ret := none) (bl := xk8_22) (by decide +kernel) (by decide +kernel) rfl rfl
