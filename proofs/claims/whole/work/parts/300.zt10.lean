/-! TABLES of what methods of class 10 ask -/
def zt10_0 (h : Nat) : ZB := [(0, [zf_ald 0, zf_getI 10 5, zf_ist 3, zf_ild 3, zf_ic 24, zf_ic2 .ge 17, zf_ild 2, zf_ic 24, zf_ic2 .le 18], 17),
  (17, [zf_ret], 18),
  (18, [zf_ic 0, zf_ist 4], 21),
  (21, [zf_ild 4, zf_ild 2, zf_ic2 .ge 54, zf_ald 0, zf_getR 10 2, zf_ild 3, zf_ic 24, zf_mul, zf_ild 4, zf_add, zf_ald 0, zf_getR 10 0, zf_ild 1, zf_ild 4, zf_add, zf_aldI 100, zf_astI, zf_inc 4 1, zf_go 21], 54),
  (54, [zf_ald 0, zf_getR 10 3, zf_ild 3, zf_ild 2, zf_astI, zf_ald 0, zf_getR 10 4, zf_ild 3, zf_ic 1, zf_astB, zf_ald 0, zf_dup, zf_getI 10 5, zf_ic 1, zf_add, zf_putI 10 5, zf_ald 0, zf_ild 3, zf_inv h 10 2 1, zf_ret], 84)]
theorem zT10_0 (h : Nat) : zTab h 10 0 5 (zt10_0 h) := zTab.mk (ret := none) (bl := xk10_0) (by decide +kernel) (by decide +kernel) rfl rfl
def zt10_1 (h : Nat) : ZB := [(0, [zf_ald 0, zf_getI 10 1, zf_ic 400, zf_ic2 .ge 30, zf_ald 0, zf_getR 10 0, zf_ald 0, zf_getI 10 1, zf_ild 1, zf_astI, zf_ald 0, zf_dup, zf_getI 10 1, zf_ic 1, zf_add, zf_putI 10 1], 30),
  (30, [zf_ret], 31)]
theorem zT10_1 (h : Nat) : zTab h 10 1 2 (zt10_1 h) := zTab.mk (ret := none) (bl := xk10_1) (by decide +kernel) (by decide +kernel) rfl rfl
def zt10_2 (h : Nat) : ZB := [(0, [zf_ald 0, zf_getR 10 7, zf_ald 0, zf_getI 10 9, zf_aldI 100, zf_ist 2, zf_ild 2, zf_ic 8, zf_ic2 .ge 51, zf_ild 1, zf_ald 0, zf_getI 10 5, zf_ic2 .ge 51, zf_ald 0, zf_getR 10 6, zf_ald 0, zf_getI 10 9, zf_ic 8, zf_mul, zf_ild 2, zf_add, zf_ild 1, zf_astI, zf_ald 0, zf_getR 10 7, zf_ald 0, zf_getI 10 9, zf_ild 2, zf_ic 1, zf_add, zf_astI], 51),
  (51, [zf_ret], 52)]
theorem zT10_2 (h : Nat) : zTab h 10 2 3 (zt10_2 h) := zTab.mk (ret := none) (bl := xk10_2) (by decide +kernel) (by decide +kernel) rfl rfl
def zt10_3 (h : Nat) : ZB := [(0, [zf_ald 0, zf_getI 10 10, zf_if .ne 19, zf_ald 0, zf_ild 1, zf_inv h 10 10 1, zf_if .eq 19, zf_ild 2, zf_if .ge 21], 19),
  (19, [zf_ic (-1), zf_reti], 21),
  (21, [zf_ild 2, zf_ist 3, zf_ic 0, zf_ist 4], 26),
  (26, [zf_ild 4, zf_ald 0, zf_getR 10 7, zf_ild 1, zf_aldI 100, zf_ic2 .ge 91, zf_ald 0, zf_getR 10 6, zf_ild 1, zf_ic 8, zf_mul, zf_ild 4, zf_add, zf_aldI 100, zf_ist 5, zf_ild 3, zf_ald 0, zf_getR 10 3, zf_ild 5, zf_aldI 100, zf_ic2 .ge 75, zf_ald 0, zf_getR 10 2, zf_ild 5, zf_ic 24, zf_mul, zf_ild 3, zf_add, zf_aldI 100, zf_reti], 75),
  (75, [zf_ild 3, zf_ald 0, zf_getR 10 3, zf_ild 5, zf_aldI 100, zf_sub, zf_ist 3, zf_inc 4 1, zf_go 26], 91),
  (91, [zf_ic (-1), zf_reti], 93)]
theorem zT10_3 (h : Nat) : zTab h 10 3 6 (zt10_3 h) := zTab.mk (ret := (some .int)) (bl := xk10_3) (by decide +kernel) (by decide +kernel) rfl rfl
def zt10_4 (h : Nat) : ZB := [(0, [zf_ald 0, zf_getI 10 9, zf_ic 12, zf_ic2 .ge 39, zf_ald 0, zf_dup, zf_getI 10 9, zf_ic 1, zf_add, zf_putI 10 9, zf_ald 0, zf_getR 10 7, zf_ald 0, zf_getI 10 9, zf_ic 0, zf_astI, zf_ald 0, zf_getR 10 8, zf_ald 0, zf_getI 10 9, zf_ic 0, zf_astB], 39),
  (39, [zf_ret], 40)]
theorem zT10_4 (h : Nat) : zTab h 10 4 1 (zt10_4 h) := zTab.mk (ret := none) (bl := xk10_4) (by decide +kernel) (by decide +kernel) rfl rfl
def zt10_5 (h : Nat) : ZB := [(0, [zf_ald 0, zf_getI 10 10, zf_if .eq 10, zf_ic (-3), zf_reti], 10),
  (10, [zf_ald 0, zf_ild 1, zf_inv h 10 10 1, zf_if .ne 21, zf_ic (-2), zf_reti], 21),
  (21, [zf_ald 0, zf_getR 10 8, zf_ild 1, zf_aldB, zf_if .eq 33, zf_ic (-4), zf_reti], 33),
  (33, [zf_ald 0, zf_getI 10 1, zf_ic 2, zf_add, zf_ic 400, zf_ic2 .le 47, zf_ic (-1), zf_reti], 47),
  (47, [zf_ald 0, zf_ic 4, zf_ild 1, zf_inv h 10 15 2, zf_ic 0, zf_reti], 55)]
theorem zT10_5 (h : Nat) : zTab h 10 5 2 (zt10_5 h) := zTab.mk (ret := (some .int)) (bl := xk10_5) (by decide +kernel) (by decide +kernel) rfl rfl
def zt10_6 (h : Nat) : ZB := [(0, [zf_ic 0, zf_ist 1, zf_ic 0, zf_ist 2], 4),
  (4, [zf_ild 2, zf_ald 0, zf_getI 10 5, zf_ic2 .ge 45, zf_ald 0, zf_getR 10 4, zf_ild 2, zf_aldB, zf_if .eq 39, zf_ald 0, zf_ild 2, zf_inv h 10 11 1, zf_if .ne 39, zf_ald 0, zf_getR 10 4, zf_ild 2, zf_ic 0, zf_astB, zf_inc 1 1], 39),
  (39, [zf_inc 2 1, zf_go 4], 45),
  (45, [zf_ild 1, zf_reti], 47)]
theorem zT10_6 (h : Nat) : zTab h 10 6 3 (zt10_6 h) := zTab.mk (ret := (some .int)) (bl := xk10_6) (by decide +kernel) (by decide +kernel) rfl rfl
def zt10_7 (h : Nat) : ZB := [(0, [zf_ild 1, zf_ald 0, zf_getI 10 9, zf_ic2 .ge 22, zf_ald 0, zf_getR 10 8, zf_ild 1, zf_ic 1, zf_astB, zf_ald 0, zf_getR 10 7, zf_ild 1, zf_ic 0, zf_astI], 22),
  (22, [zf_ret], 23)]
theorem zT10_7 (h : Nat) : zTab h 10 7 2 (zt10_7 h) := zTab.mk (ret := none) (bl := xk10_7) (by decide +kernel) (by decide +kernel) rfl rfl
def zt10_8 (h : Nat) : ZB := [(0, [zf_ic 0, zf_ist 3, zf_ic 0, zf_ist 4], 5),
  (5, [zf_ild 4, zf_ald 1, zf_getR 0 10, zf_getI 7 2, zf_ic2 .ge 124, zf_ald 1, zf_ild 4, zf_inv h 0 19 1, zf_ild 2, zf_ic2 .ne 118, zf_ild 3, zf_ic 4, zf_add, zf_ic 24, zf_ic2 .gt 118, zf_ald 1, zf_ild 4, zf_inv h 0 18 1, zf_ist 5, zf_ald 0, zf_getR 10 12, zf_ild 3, zf_ald 1, zf_getR 0 10, zf_ild 4, zf_ic 0, zf_inv h 7 1 2, zf_astI, zf_ald 0, zf_getR 10 12, zf_ild 3, zf_ic 1, zf_add, zf_ald 1, zf_getR 0 10, zf_ild 4, zf_ic 1, zf_inv h 7 1 2, zf_astI, zf_ald 0, zf_getR 10 12, zf_ild 3, zf_ic 2, zf_add, zf_ald 1, zf_ild 5, zf_inv h 0 14 1, zf_astI, zf_ald 0, zf_getR 10 12, zf_ild 3, zf_ic 3, zf_add, zf_ic 16, zf_ald 1, zf_ild 5, zf_inv h 0 21 1, zf_mul, zf_ald 1, zf_ild 5, zf_inv h 0 6 1, zf_add, zf_astI, zf_inc 3 4], 118),
  (118, [zf_inc 4 1, zf_go 5], 124),
  (124, [zf_ild 3, zf_reti], 126)]
theorem zT10_8 (h : Nat) : zTab h 10 8 6 (zt10_8 h) := zTab.mk (ret := (some .int)) (bl := xk10_8) (by decide +kernel) (by decide +kernel) rfl rfl
def zt10_10 (h : Nat) : ZB := [(0, [zf_ild 1, zf_if .lt 16, zf_ild 1, zf_ald 0, zf_getI 10 9, zf_ic2 .ge 16, zf_ic 1, zf_go 17], 16),
  (16, [zf_ic 0], 17),
  (17, [zf_retz], 18)]
theorem zT10_10 (h : Nat) : zTab h 10 10 2 (zt10_10 h) := zTab.mk (ret := (some .boolean)) (bl := xk10_10) (by decide +kernel) (by decide +kernel) rfl rfl
def zt10_11 (h : Nat) : ZB := [(0, [zf_ic 0, zf_ist 2, zf_ic 0, zf_ist 3], 4),
  (4, [zf_ild 3, zf_ald 0, zf_getI 10 9, zf_ic2 .gt 64, zf_ic 0, zf_ist 4], 15),
  (15, [zf_ild 4, zf_ald 0, zf_getR 10 7, zf_ild 3, zf_aldI 100, zf_ic2 .ge 58, zf_ild 2, zf_if .ne 46, zf_ald 0, zf_getR 10 6, zf_ild 3, zf_ic 8, zf_mul, zf_ild 4, zf_add, zf_aldI 100, zf_ild 1, zf_ic2 .ne 50], 46),
  (46, [zf_ic 1, zf_go 51], 50),
  (50, [zf_ic 0], 51),
  (51, [zf_ist 2, zf_inc 4 1, zf_go 15], 58),
  (58, [zf_inc 3 1, zf_go 4], 64),
  (64, [zf_ild 2, zf_retz], 66)]
theorem zT10_11 (h : Nat) : zTab h 10 11 5 (zt10_11 h) := zTab.mk (ret := (some .boolean)) (bl := xk10_11) (by decide +kernel) (by decide +kernel) rfl rfl
def zt10_12 (h : Nat) : ZB := [(0, [zf_ald 1, zf_getI 0 0, zf_ic (-1), zf_ic2 .eq 15, zf_ald 0, zf_getI 10 10, zf_if .eq 18], 15),
  (15, [zf_ic (-3), zf_reti], 18),
  (18, [zf_ald 0, zf_getR 10 7, zf_ald 0, zf_getI 10 9, zf_aldI 100, zf_ist 2, zf_ic 0, zf_ist 3, zf_ic 1, zf_ist 4, zf_ic 0, zf_ist 5], 36),
  (36, [zf_ild 5, zf_ald 1, zf_getR 0 11, zf_getI 7 2, zf_ic2 .ge 119, zf_ald 0, zf_ald 1, zf_ild 5, zf_inv h 10 8 2, zf_ist 6, zf_ild 6, zf_if .le 113, zf_ald 0, zf_ild 6, zf_inv h 10 20 1, zf_ic (-1), zf_ic2 .eq 76, zf_ic 1, zf_go 77], 76),
  (76, [zf_ic 0], 77),
  (77, [zf_ist 7, zf_inc 2 1, zf_ild 3, zf_ild 7, zf_if .eq 92, zf_ic 0, zf_go 93], 92),
  (92, [zf_ic 1], 93),
  (93, [zf_add, zf_ist 3, zf_ild 4, zf_ild 7, zf_if .eq 106, zf_ic 2, zf_go 110], 106),
  (106, [zf_ic 2, zf_ild 6, zf_add], 110),
  (110, [zf_add, zf_ist 4], 113),
  (113, [zf_inc 5 1, zf_go 36], 119),
  (119, [zf_ild 2, zf_ic 8, zf_ic2 .gt 149, zf_ald 0, zf_getI 10 5, zf_ild 3, zf_add, zf_ic 24, zf_ic2 .gt 149, zf_ald 0, zf_getI 10 9, zf_ic 12, zf_ic2 .ge 149, zf_ic 1, zf_go 150], 149),
  (149, [zf_ic 0], 150),
  (150, [zf_ist 5, zf_ild 5, zf_if .eq 170, zf_ald 0, zf_getI 10 1, zf_ild 4, zf_add, zf_ic 400, zf_ic2 .le 172], 170),
  (170, [zf_ic (-1), zf_reti], 172),
  (172, [zf_ic 0, zf_ist 6], 175),
  (175, [zf_ild 6, zf_ald 1, zf_getR 0 11, zf_getI 7 2, zf_ic2 .ge 213, zf_ald 0, zf_ald 1, zf_ild 6, zf_inv h 10 8 2, zf_ist 7, zf_ild 7, zf_if .le 207, zf_ald 0, zf_ild 7, zf_inv h 10 16 1], 207),
  (207, [zf_inc 6 1, zf_go 175], 213),
  (213, [zf_ald 0, zf_ic 3, zf_ic (-1), zf_inv h 10 15 2, zf_ald 0, zf_getI 10 9, zf_ic 1, zf_sub, zf_reti], 226)]
theorem zT10_12 (h : Nat) : zTab h 10 12 8 (zt10_12 h) := zTab.mk (ret := (some .int)) (bl := xk10_12) (by decide +kernel) (by decide +kernel) rfl rfl
def zt10_13 (h : Nat) : ZB := [(0, [zf_ald 0, zf_getI 10 10, zf_if .eq 10, zf_ic (-3), zf_reti], 10),
  (10, [zf_ild 1, zf_if .lt 22, zf_ild 1, zf_ald 0, zf_getI 10 1, zf_ic2 .le 25], 22),
  (22, [zf_ic (-2), zf_reti], 25),
  (25, [zf_ald 0, zf_getI 10 11, zf_ic 16, zf_ic2 .lt 36, zf_ic (-1), zf_reti], 36),
  (36, [zf_ald 0, zf_dup, zf_getI 10 11, zf_ic 1, zf_add, zf_putI 10 11, zf_ald 0, zf_ic 1, zf_putZ 10 10, zf_ald 0, zf_ild 1, zf_putI 10 1, zf_ic 0, zf_reti], 58)]
theorem zT10_13 (h : Nat) : zTab h 10 13 2 (zt10_13 h) := zTab.mk (ret := (some .int)) (bl := xk10_13) (by decide +kernel) (by decide +kernel) rfl rfl
def zt10_14 (h : Nat) : ZB := [(0, [zf_ald 2, zf_getI 0 0, zf_ic (-1), zf_ic2 .eq 15, zf_ald 0, zf_getI 10 10, zf_if .eq 18], 15),
  (15, [zf_ic (-3), zf_reti], 18),
  (18, [zf_ald 0, zf_ild 1, zf_inv h 10 10 1, zf_if .ne 29, zf_ic (-2), zf_reti], 29),
  (29, [zf_ic 0, zf_ist 3, zf_ic 0, zf_ist 4], 34),
  (34, [zf_ild 4, zf_ic 192, zf_ic2 .ge 126, zf_ald 0, zf_ild 1, zf_ild 4, zf_ic 3, zf_add, zf_inv h 10 3 2, zf_ic (-1), zf_ic2 .eq 126, zf_ald 0, zf_ild 1, zf_ild 4, zf_ic 3, zf_add, zf_inv h 10 3 2, zf_ist 5, zf_ald 2, zf_ald 0, zf_ild 1, zf_ild 4, zf_inv h 10 3 2, zf_ald 0, zf_ild 1, zf_ild 4, zf_ic 1, zf_add, zf_inv h 10 3 2, zf_ald 0, zf_ild 1, zf_ild 4, zf_ic 2, zf_add, zf_inv h 10 3 2, zf_ild 5, zf_ic 16, zf_rem, zf_ild 5, zf_ic 16, zf_div, zf_inv h 0 0 5, zf_ist 6, zf_ild 3, zf_ild 6, zf_if .lt 117, zf_ic 1, zf_go 118], 117),
  (117, [zf_ic 0], 118),
  (118, [zf_add, zf_ist 3, zf_inc 4 4, zf_go 34], 126),
  (126, [zf_ild 3, zf_reti], 128)]
theorem zT10_14 (h : Nat) : zTab h 10 14 7 (zt10_14 h) := zTab.mk (ret := (some .int)) (bl := xk10_14) (by decide +kernel) (by decide +kernel) rfl rfl
def zt10_15 (h : Nat) : ZB := [(0, [zf_ald 0, zf_getI 10 1, zf_ist 3, zf_ald 0, zf_ild 1, zf_inv h 10 1 1, zf_ild 2, zf_ic (-1), zf_ic2 .eq 20, zf_ald 0, zf_ild 2, zf_inv h 10 1 1], 20),
  (20, [zf_ald 0, zf_ild 3, zf_inv h 10 19 1, zf_pop, zf_ret], 27)]
theorem zT10_15 (h : Nat) : zTab h 10 15 4 (zt10_15 h) := zTab.mk (ret := none) (bl := xk10_15) (by decide +kernel) (by decide +kernel) rfl rfl
def zt10_16 (h : Nat) : ZB := [(0, [zf_ald 0, zf_ild 1, zf_inv h 10 20 1, zf_ist 2, zf_ild 2, zf_ic (-1), zf_ic2 .eq 18, zf_ald 0, zf_ic 2, zf_ild 2, zf_inv h 10 15 2, zf_ret], 18),
  (18, [zf_ald 0, zf_getI 10 1, zf_ist 3, zf_ald 0, zf_ic 1, zf_inv h 10 1 1, zf_ald 0, zf_ild 1, zf_inv h 10 1 1, zf_ic 0, zf_ist 4], 36),
  (36, [zf_ild 4, zf_ild 1, zf_ic2 .ge 59, zf_ald 0, zf_ald 0, zf_getR 10 12, zf_ild 4, zf_aldI 100, zf_inv h 10 1 1, zf_inc 4 1, zf_go 36], 59),
  (59, [zf_ald 0, zf_ild 3, zf_inv h 10 19 1, zf_pop, zf_ret], 66)]
theorem zT10_16 (h : Nat) : zTab h 10 16 5 (zt10_16 h) := zTab.mk (ret := none) (bl := xk10_16) (by decide +kernel) (by decide +kernel) rfl rfl
def zt10_17 (h : Nat) : ZB := [(0, [zf_ild 1, zf_if .lt 12, zf_ild 1, zf_ald 0, zf_getI 10 1, zf_ic2 .lt 14], 12),
  (12, [zf_ic (-1), zf_reti], 14),
  (14, [zf_ald 0, zf_getR 10 0, zf_ild 1, zf_aldI 100, zf_sw 89 1 5 [56, 81, 83, 85, 87]], 56),
  (56, [zf_ild 1, zf_ic 1, zf_add, zf_ald 0, zf_getI 10 1, zf_ic2 .ge 79, zf_ic 2, zf_ald 0, zf_getR 10 0, zf_ild 1, zf_ic 1, zf_add, zf_aldI 100, zf_add, zf_go 80], 79),
  (79, [zf_ic (-1)], 80),
  (80, [zf_reti], 81),
  (81, [zf_ic 2, zf_reti], 83),
  (83, [zf_ic 1, zf_reti], 85),
  (85, [zf_ic 2, zf_reti], 87),
  (87, [zf_ic 1, zf_reti], 89),
  (89, [zf_ic (-1), zf_reti], 91)]
theorem zT10_17 (h : Nat) : zTab h 10 17 2 (zt10_17 h) := zTab.mk (ret := (some .int)) (bl := xk10_17) (by decide +kernel) (by decide +kernel) rfl rfl
def zt10_18 (h : Nat) : ZB := [(0, [zf_ald 0, zf_getI 10 10, zf_if .ne 10, zf_ic (-3), zf_reti], 10),
  (10, [zf_ald 0, zf_ic 0, zf_putZ 10 10, zf_ald 0, zf_ic 0, zf_putI 10 5, zf_ald 0, zf_ic 0, zf_putI 10 9, zf_ald 0, zf_getR 10 7, zf_ic 0, zf_ic 0, zf_astI, zf_ald 0, zf_getR 10 8, zf_ic 0, zf_ic 0, zf_astB, zf_ic 0, zf_ist 1, zf_ic 0, zf_ist 2, zf_ic 0, zf_ist 3], 45),
  (45, [zf_ild 3, zf_ic 400, zf_ic2 .gt 71, zf_ild 2, zf_ic (-1), zf_ic2 .eq 71, zf_ild 2, zf_ist 1, zf_ald 0, zf_ild 1, zf_inv h 10 19 1, zf_ist 2, zf_inc 3 1, zf_go 45], 71),
  (71, [zf_ald 0, zf_ild 1, zf_putI 10 1, zf_ald 0, zf_getI 10 9, zf_reti], 81)]
theorem zT10_18 (h : Nat) : zTab h 10 18 4 (zt10_18 h) := zTab.mk (ret := (some .int)) (bl := xk10_18) (by decide +kernel) (by decide +kernel) rfl rfl
def zt10_19 (h : Nat) : ZB := [(0, [zf_ald 0, zf_ild 1, zf_inv h 10 17 1, zf_ist 2, zf_ild 2, zf_ic (-1), zf_ic2 .eq 21, zf_ild 1, zf_ild 2, zf_add, zf_ald 0, zf_getI 10 1, zf_ic2 .le 23], 21),
  (21, [zf_ic (-1), zf_reti], 23),
  (23, [zf_ald 0, zf_getR 10 0, zf_ild 1, zf_aldI 100, zf_sw 115 1 4 [60, 78, 93, 100]], 60),
  (60, [zf_ald 0, zf_ild 1, zf_ic 2, zf_add, zf_ald 0, zf_getR 10 0, zf_ild 1, zf_ic 1, zf_add, zf_aldI 100, zf_inv h 10 0 2, zf_go 120], 78),
  (78, [zf_ald 0, zf_ald 0, zf_getR 10 0, zf_ild 1, zf_ic 1, zf_add, zf_aldI 100, zf_inv h 10 2 1, zf_go 120], 93),
  (93, [zf_ald 0, zf_inv h 10 4 0, zf_go 120], 100),
  (100, [zf_ald 0, zf_ald 0, zf_getR 10 0, zf_ild 1, zf_ic 1, zf_add, zf_aldI 100, zf_inv h 10 7 1, zf_go 120], 115),
  (115, [zf_ald 0, zf_inv h 10 6 0, zf_pop], 120),
  (120, [zf_ild 1, zf_ild 2, zf_add, zf_reti], 124)]
theorem zT10_19 (h : Nat) : zTab h 10 19 3 (zt10_19 h) := zTab.mk (ret := (some .int)) (bl := xk10_19) (by decide +kernel) (by decide +kernel) rfl rfl
def zt10_20 (h : Nat) : ZB := [(0, [zf_ic 0, zf_ist 2], 2),
  (2, [zf_ild 2, zf_ald 0, zf_getI 10 5, zf_ic2 .ge 94, zf_ald 0, zf_getR 10 4, zf_ild 2, zf_aldB, zf_if .eq 33, zf_ald 0, zf_getR 10 3, zf_ild 2, zf_aldI 100, zf_ild 1, zf_ic2 .ne 33, zf_ic 1, zf_go 34], 33),
  (33, [zf_ic 0], 34),
  (34, [zf_ist 3, zf_ic 0, zf_ist 4], 38),
  (38, [zf_ild 4, zf_ild 1, zf_ic2 .ge 82, zf_ild 3, zf_if .eq 82, zf_ald 0, zf_getR 10 2, zf_ild 2, zf_ic 24, zf_mul, zf_ild 4, zf_add, zf_aldI 100, zf_ald 0, zf_getR 10 12, zf_ild 4, zf_aldI 100, zf_ic2 .ne 74, zf_ic 1, zf_go 75], 74),
  (74, [zf_ic 0], 75),
  (75, [zf_ist 3, zf_inc 4 1, zf_go 38], 82),
  (82, [zf_ild 3, zf_if .eq 88, zf_ild 2, zf_reti], 88),
  (88, [zf_inc 2 1, zf_go 2], 94),
  (94, [zf_ic (-1), zf_reti], 96)]
theorem zT10_20 (h : Nat) : zTab h 10 20 5 (zt10_20 h) := zTab.mk (ret := (some .int)) (bl := xk10_20) (by decide +kernel) (by decide +kernel) rfl rfl
def zt10_21 (h : Nat) : ZB := [(0, [zf_ald 0, zf_getI 10 10, zf_if .eq 10, zf_ic (-3), zf_reti], 10),
  (10, [zf_ald 0, zf_getI 10 1, zf_ic 1, zf_add, zf_ic 400, zf_ic2 .le 24, zf_ic (-1), zf_reti], 24),
  (24, [zf_ald 0, zf_ic 5, zf_inv h 10 1 1, zf_ald 0, zf_inv h 10 6 0, zf_reti], 34)]
theorem zT10_21 (h : Nat) : zTab h 10 21 1 (zt10_21 h) := zTab.mk (ret := (some .int)) (bl := xk10_21) (by decide +kernel) (by decide +kernel) rfl rfl
