/-! TABLES of what methods of class 18 ask -/
def zt18_0 (h : Nat) : ZB := [(0, [zf_ic 0, zf_ist 1], 2),
  (2, [zf_ild 1, zf_ic 960, zf_ic2 .ge 38, zf_ald 0, zf_getR 18 28, zf_ild 1, zf_ald 0, zf_getI 18 32, zf_if .eq 30, zf_ald 0, zf_getR 18 27, zf_ild 1, zf_aldI 100, zf_go 31], 30),
  (30, [zf_ic (-1)], 31),
  (31, [zf_astI, zf_inc 1 1, zf_go 2], 38),
  (38, [zf_ald 0, zf_ic 1, zf_putZ 18 32, zf_ald 0, zf_inv h 18 13 0, zf_ald 0, zf_inv h 18 28 0, zf_ald 0, zf_ic 0, zf_putI 18 31, zf_ic 0, zf_ist 1], 58),
  (58, [zf_ild 1, zf_ald 0, zf_getI 18 29, zf_ic2 .ge 114, zf_ald 0, zf_getR 18 30, zf_ild 1, zf_ald 0, zf_ild 1, zf_inv h 18 35 1, zf_if .ne 83, zf_ic 1, zf_go 84], 83),
  (83, [zf_ic 0], 84),
  (84, [zf_astB, zf_ald 0, zf_dup, zf_getI 18 31, zf_ald 0, zf_getR 18 30, zf_ild 1, zf_aldB, zf_if .eq 103, zf_ic 1, zf_go 104], 103),
  (103, [zf_ic 0], 104),
  (104, [zf_add, zf_putI 18 31, zf_inc 1 1, zf_go 58], 114),
  (114, [zf_ret], 115)]
theorem zT18_0 (h : Nat) : zTab h 18 0 2 (zt18_0 h) := zTab.mk (ret := none) (bl := xk18_0) (by decide +kernel) (by decide +kernel) rfl rfl
def zt18_1 (h : Nat) : ZB := [(0, [zf_ild 2, zf_ist 3, zf_ild 1, zf_ist 4], 5),
  (5, [zf_ild 4, zf_ald 0, zf_getI 18 1, zf_ic2 .ge 48, zf_ild 2, zf_if .lt 48, zf_ald 0, zf_getR 18 3, zf_ild 4, zf_aldI 100, zf_ild 1, zf_ic2 .eq 32, zf_go 42], 32),
  (32, [zf_ild 3, zf_if .ne 39, zf_ild 4, zf_reti], 39),
  (39, [zf_inc 3 (-1)], 42),
  (42, [zf_inc 4 1, zf_go 5], 48),
  (48, [zf_ic (-1), zf_reti], 50)]
theorem zT18_1 (h : Nat) : zTab h 18 1 5 (zt18_1 h) := zTab.mk (ret := (some .int)) (bl := xk18_1) (by decide +kernel) (by decide +kernel) rfl rfl
def zt18_2 (h : Nat) : ZB := [(0, [zf_ald 0, zf_getR 18 6, zf_ic 4, zf_ild 1, zf_mul, zf_aldL, zf_lst 6, zf_ald 0, zf_getR 18 6, zf_ic 4, zf_ild 1, zf_mul, zf_ic 1, zf_add, zf_aldL, zf_lst 8, zf_ald 0, zf_getR 18 6, zf_ic 4, zf_ild 1, zf_mul, zf_ic 2, zf_add, zf_aldL, zf_lst 10, zf_ald 0, zf_getR 18 6, zf_ic 4, zf_ild 1, zf_mul, zf_ic 3, zf_add, zf_aldL, zf_lst 12, zf_lld 2, zf_lld 6, zf_lcmp, zf_if .lt 60, zf_lld 2, zf_lld 10, zf_lcmp, zf_if .le 74], 60),
  (60, [zf_lld 2, zf_lld 10, zf_lcmp, zf_if .lt 110, zf_lld 2, zf_lld 6, zf_lcmp, zf_if .gt 110], 74),
  (74, [zf_lld 4, zf_lld 8, zf_lcmp, zf_if .lt 90, zf_lld 4, zf_lld 12, zf_lcmp, zf_if .le 106], 90),
  (90, [zf_lld 4, zf_lld 12, zf_lcmp, zf_if .lt 110, zf_lld 4, zf_lld 8, zf_lcmp, zf_if .gt 110], 106),
  (106, [zf_ic 1, zf_go 111], 110),
  (110, [zf_ic 0], 111),
  (111, [zf_ist 14, zf_ild 14, zf_if .eq 147, zf_lld 10, zf_lld 6, zf_lsub, zf_lld 4, zf_lld 8, zf_lsub, zf_lmul, zf_lld 12, zf_lld 8, zf_lsub, zf_lld 2, zf_lld 6, zf_lsub, zf_lmul, zf_lcmp, zf_if .ne 147, zf_ic 1, zf_go 148], 147),
  (147, [zf_ic 0], 148),
  (148, [zf_retz], 149)]
theorem zT18_2 (h : Nat) : zTab h 18 2 15 (zt18_2 h) := zTab.mk (ret := (some .boolean)) (bl := xk18_2) (by decide +kernel) (by decide +kernel) rfl rfl
def zt18_3 (h : Nat) : ZB := [(0, [zf_ic 0, zf_ist 3], 2),
  (2, [zf_ild 3, zf_ald 0, zf_getI 18 11, zf_ic2 .ge 89, zf_ald 0, zf_getR 18 13, zf_ild 3, zf_aldI 100, zf_ild 2, zf_ic2 .eq 23, zf_go 83], 23),
  (23, [zf_ic 0, zf_ist 4], 26),
  (26, [zf_ild 4, zf_ald 0, zf_getI 18 1, zf_ic2 .ge 83, zf_ald 0, zf_getR 18 3, zf_ild 4, zf_aldI 100, zf_ald 0, zf_getR 18 12, zf_ild 3, zf_aldI 100, zf_ic2 .ne 77, zf_ald 0, zf_getR 18 26, zf_ald 0, zf_ic 1600, zf_ic 16, zf_ild 3, zf_mul, zf_add, zf_ild 4, zf_add, zf_inv h 18 20 1, zf_aldI 100, zf_ild 1, zf_ic2 .ne 77, zf_ic 1, zf_retz], 77),
  (77, [zf_inc 4 1, zf_go 26], 83),
  (83, [zf_inc 3 1, zf_go 2], 89),
  (89, [zf_ic 0, zf_retz], 91)]
theorem zT18_3 (h : Nat) : zTab h 18 3 5 (zt18_3 h) := zTab.mk (ret := (some .boolean)) (bl := xk18_3) (by decide +kernel) (by decide +kernel) rfl rfl
def zt18_4 (h : Nat) : ZB := [(0, [zf_ic 0, zf_ist 3], 2),
  (2, [zf_ild 3, zf_ic 4, zf_ic2 .ge 84, zf_ic 0, zf_ist 4], 10),
  (10, [zf_ild 4, zf_ic 4, zf_ic2 .ge 78, zf_ald 0, zf_getR 18 6, zf_ic 4, zf_ild 1, zf_mul, zf_ild 3, zf_add, zf_aldL, zf_ald 0, zf_getR 18 6, zf_ic 4, zf_ild 2, zf_mul, zf_ild 4, zf_add, zf_aldL, zf_lcmp, zf_if .ne 72, zf_ald 0, zf_getR 18 6, zf_ic 4, zf_ild 1, zf_mul, zf_ild 3, zf_add, zf_ic 1, zf_add, zf_aldL, zf_ald 0, zf_getR 18 6, zf_ic 4, zf_ild 2, zf_mul, zf_ild 4, zf_add, zf_ic 1, zf_add, zf_aldL, zf_lcmp, zf_if .ne 72, zf_ic 1, zf_retz], 72),
  (72, [zf_inc 4 2, zf_go 10], 78),
  (78, [zf_inc 3 2, zf_go 2], 84),
  (84, [zf_ic 0, zf_retz], 86)]
theorem zT18_4 (h : Nat) : zTab h 18 4 5 (zt18_4 h) := zTab.mk (ret := (some .boolean)) (bl := xk18_4) (by decide +kernel) (by decide +kernel) rfl rfl
def zt18_5 (h : Nat) : ZB := [(0, [zf_ald 0, zf_ini, zf_ald 0, zf_ic 16, zf_newA 100, zf_putR 18 2, zf_ald 0, zf_ic 16, zf_newA 100, zf_putR 18 3, zf_ald 0, zf_ic 100, zf_newA 100, zf_putR 18 5, zf_ald 0, zf_ic 400, zf_newA 101, zf_putR 18 6, zf_ald 0, zf_ic 100, zf_newA 103, zf_putR 18 7, zf_ald 0, zf_ic 50, zf_newA 100, zf_putR 18 9, zf_ald 0, zf_ic 100, zf_newA 101, zf_putR 18 10, zf_ald 0, zf_ic 60, zf_newA 100, zf_putR 18 12, zf_ald 0, zf_ic 60, zf_newA 100, zf_putR 18 13, zf_ald 0, zf_ic 120, zf_newA 101, zf_putR 18 14, zf_ald 0, zf_ic 60, zf_newA 100, zf_putR 18 16, zf_ald 0, zf_ic 60, zf_newA 100, zf_putR 18 17, zf_ald 0, zf_ic 120, zf_newA 101, zf_putR 18 18, zf_ald 0, zf_ic 60, zf_newA 103, zf_putR 18 19, zf_ald 0, zf_ic 90, zf_newA 100, zf_putR 18 21, zf_ald 0, zf_ic 64, zf_newA 100, zf_putR 18 23, zf_ald 0, zf_ic 1000, zf_newA 100, zf_putR 18 24, zf_ald 0, zf_ic 19520, zf_newA 100, zf_putR 18 25, zf_ald 0, zf_ic 19520, zf_newA 100, zf_putR 18 26, zf_ald 0, zf_ic 960, zf_newA 100, zf_putR 18 27, zf_ald 0, zf_ic 960, zf_newA 100, zf_putR 18 28, zf_ald 0, zf_ic 960, zf_newA 103, zf_putR 18 30, zf_ret], 188)]
theorem zT18_5 (h : Nat) : zTab h 18 5 1 (zt18_5 h) := zTab.mk (ret := none) (bl := xk18_5) (by decide +kernel) (by decide +kernel) rfl rfl
def zt18_6 (h : Nat) : ZB := [(0, [zf_ald 0, zf_getR 18 14, zf_ic 2, zf_ild 1, zf_mul, zf_aldL, zf_lst 2, zf_ald 0, zf_getR 18 14, zf_ic 2, zf_ild 1, zf_mul, zf_ic 1, zf_add, zf_aldL, zf_lst 4, zf_ald 0, zf_getR 18 12, zf_ild 1, zf_aldI 100, zf_ist 6, zf_ic 0, zf_ist 7], 32),
  (32, [zf_ild 7, zf_ald 0, zf_getI 18 4, zf_ic2 .ge 72, zf_ald 0, zf_ild 7, zf_ild 6, zf_inv h 18 9 2, zf_if .eq 66, zf_ald 0, zf_ild 7, zf_lld 2, zf_lld 4, zf_inv h 18 2 3, zf_if .eq 66, zf_ic 0, zf_retz], 66),
  (66, [zf_inc 7 1, zf_go 32], 72),
  (72, [zf_ic 0, zf_ist 7], 75),
  (75, [zf_ild 7, zf_ald 0, zf_getI 18 15, zf_ic2 .ge 135, zf_ald 0, zf_getR 18 16, zf_ild 7, zf_aldI 100, zf_ild 6, zf_ic2 .ne 129, zf_ald 0, zf_getR 18 18, zf_ic 2, zf_ild 7, zf_mul, zf_aldL, zf_lld 2, zf_lcmp, zf_if .ne 129, zf_ald 0, zf_getR 18 18, zf_ic 2, zf_ild 7, zf_mul, zf_ic 1, zf_add, zf_aldL, zf_lld 4, zf_lcmp, zf_if .ne 129, zf_ic 0, zf_retz], 129),
  (129, [zf_inc 7 1, zf_go 75], 135),
  (135, [zf_ic 1, zf_retz], 137)]
theorem zT18_6 (h : Nat) : zTab h 18 6 8 (zt18_6 h) := zTab.mk (ret := (some .boolean)) (bl := xk18_6) (by decide +kernel) (by decide +kernel) rfl rfl
def zt18_7 (h : Nat) : ZB := [(0, [zf_ic 16, zf_ild 1, zf_mul, zf_ist 2], 5),
  (5, [zf_ild 2, zf_ic 16, zf_ild 1, zf_mul, zf_ic 16, zf_add, zf_ic2 .ge 69, zf_ic 0, zf_ist 3], 18),
  (18, [zf_ild 3, zf_ic 960, zf_ic2 .ge 63, zf_ald 0, zf_getR 18 27, zf_ild 2, zf_aldI 100, zf_ic (-1), zf_ic2 .eq 63, zf_ild 3, zf_ild 2, zf_ic2 .eq 57, zf_ald 0, zf_getR 18 27, zf_ild 3, zf_aldI 100, zf_ald 0, zf_getR 18 27, zf_ild 2, zf_aldI 100, zf_ic2 .ne 57, zf_ic 1, zf_retz], 57),
  (57, [zf_inc 3 1, zf_go 18], 63),
  (63, [zf_inc 2 1, zf_go 5], 69),
  (69, [zf_ic 0, zf_retz], 71)]
theorem zT18_7 (h : Nat) : zTab h 18 7 4 (zt18_7 h) := zTab.mk (ret := (some .boolean)) (bl := xk18_7) (by decide +kernel) (by decide +kernel) rfl rfl
def zt18_8 (h : Nat) : ZB := [(0, [zf_ild 0, zf_if .lt 15, zf_ild 0, zf_ic 1000, zf_ic2 .ge 15, zf_ic 1, zf_go 16], 15),
  (15, [zf_ic 0], 16),
  (16, [zf_retz], 17)]
theorem zT18_8 (h : Nat) : zTab h 18 8 1 (zt18_8 h) := zTab.mk (ret := (some .boolean)) (bl := xk18_8) (by decide +kernel) (by decide +kernel) rfl rfl
def zt18_9 (h : Nat) : ZB := [(0, [zf_ald 0, zf_getR 18 5, zf_ild 1, zf_aldI 100, zf_ild 2, zf_ic2 .ne 23, zf_ald 0, zf_getR 18 7, zf_ild 1, zf_aldB, zf_if .ne 23, zf_ic 1, zf_go 24], 23),
  (23, [zf_ic 0], 24),
  (24, [zf_retz], 25)]
theorem zT18_9 (h : Nat) : zTab h 18 9 3 (zt18_9 h) := zTab.mk (ret := (some .boolean)) (bl := xk18_9) (by decide +kernel) (by decide +kernel) rfl rfl
def zt18_10 (h : Nat) : ZB := [(0, [zf_lld 0, zf_lc (-1000000000), zf_lcmp, zf_if .lt 36, zf_lld 0, zf_lc 1000000000, zf_lcmp, zf_if .gt 36, zf_lld 2, zf_lc (-1000000000), zf_lcmp, zf_if .lt 36, zf_lld 2, zf_lc 1000000000, zf_lcmp, zf_if .gt 36, zf_ic 1, zf_go 37], 36),
  (36, [zf_ic 0], 37),
  (37, [zf_retz], 38)]
theorem zT18_10 (h : Nat) : zTab h 18 10 4 (zt18_10 h) := zTab.mk (ret := (some .boolean)) (bl := xk18_10) (by decide +kernel) (by decide +kernel) rfl rfl
def zt18_11 (h : Nat) : ZB := [(0, [zf_ild 1, zf_if .lt 16, zf_ild 1, zf_ald 0, zf_getI 18 1, zf_ic2 .ge 16, zf_ic 1, zf_go 17], 16),
  (16, [zf_ic 0], 17),
  (17, [zf_retz], 18)]
theorem zT18_11 (h : Nat) : zTab h 18 11 2 (zt18_11 h) := zTab.mk (ret := (some .boolean)) (bl := xk18_11) (by decide +kernel) (by decide +kernel) rfl rfl
def zt18_12 (h : Nat) : ZB := [(0, [zf_ald 0, zf_ild 1, zf_inv h 18 20 1, zf_ist 3, zf_ald 0, zf_ild 2, zf_inv h 18 20 1, zf_ist 4, zf_ild 3, zf_ild 4, zf_ic2 .ge 30, zf_ald 0, zf_getR 18 25, zf_ild 4, zf_ild 3, zf_astI, zf_go 38], 30),
  (30, [zf_ald 0, zf_getR 18 25, zf_ild 3, zf_ild 4, zf_astI], 38),
  (38, [zf_ald 0, zf_getR 18 25, zf_ild 1, zf_ild 3, zf_ild 4, zf_ic2 .ge 53, zf_ild 3, zf_go 55], 53),
  (53, [zf_ild 4], 55),
  (55, [zf_astI, zf_ald 0, zf_getR 18 25, zf_ild 2, zf_ild 3, zf_ild 4, zf_ic2 .ge 71, zf_ild 3, zf_go 73], 71),
  (71, [zf_ild 4], 73),
  (73, [zf_astI, zf_ret], 75)]
theorem zT18_12 (h : Nat) : zTab h 18 12 5 (zt18_12 h) := zTab.mk (ret := none) (bl := xk18_12) (by decide +kernel) (by decide +kernel) rfl rfl
def zt18_13 (h : Nat) : ZB := [(0, [zf_ic 0, zf_ist 1], 2),
  (2, [zf_ild 1, zf_ic 19520, zf_ic2 .ge 22, zf_ald 0, zf_getR 18 25, zf_ild 1, zf_ild 1, zf_astI, zf_inc 1 1, zf_go 2], 22),
  (22, [zf_ic 0, zf_ist 1], 24),
  (24, [zf_ild 1, zf_ald 0, zf_getI 18 1, zf_ic2 .ge 102, zf_ald 0, zf_ild 1, zf_inv h 18 16 1, zf_ic 0, zf_ist 2], 39),
  (39, [zf_ild 2, zf_ald 0, zf_getI 18 1, zf_ic2 .ge 96, zf_ic 0, zf_ist 3], 49),
  (49, [zf_ild 3, zf_ald 0, zf_getI 18 22, zf_ic2 .ge 90, zf_ic 0, zf_ist 4], 60),
  (60, [zf_ild 4, zf_ald 0, zf_getI 18 22, zf_ic2 .ge 84, zf_ald 0, zf_ild 3, zf_ild 1, zf_ild 4, zf_ild 2, zf_inv h 18 14 4, zf_inc 4 1, zf_go 60], 84),
  (84, [zf_inc 3 1, zf_go 49], 90),
  (90, [zf_inc 2 1, zf_go 39], 96),
  (96, [zf_inc 1 1, zf_go 24], 102),
  (102, [zf_ic 0, zf_ist 1], 104),
  (104, [zf_ild 1, zf_ald 0, zf_getI 18 20, zf_ic2 .ge 170, zf_ald 0, zf_getR 18 21, zf_ic 3, zf_ild 1, zf_mul, zf_aldI 100, zf_ist 2, zf_ald 0, zf_ic 1600, zf_ic 16, zf_ald 0, zf_getR 18 21, zf_ic 3, zf_ild 1, zf_mul, zf_ic 1, zf_add, zf_aldI 100, zf_mul, zf_add, zf_ild 2, zf_add, zf_ald 0, zf_ald 0, zf_getR 18 2, zf_ild 2, zf_aldI 100, zf_ald 0, zf_getR 18 21, zf_ic 3, zf_ild 1, zf_mul, zf_ic 2, zf_add, zf_aldI 100, zf_inv h 18 24 2, zf_inv h 18 12 2, zf_inc 1 1, zf_go 104], 170),
  (170, [zf_ret], 171)]
theorem zT18_13 (h : Nat) : zTab h 18 13 5 (zt18_13 h) := zTab.mk (ret := none) (bl := xk18_13) (by decide +kernel) (by decide +kernel) rfl rfl
def zt18_14 (h : Nat) : ZB := [(0, [zf_ald 0, zf_getR 18 3, zf_ild 2, zf_aldI 100, zf_ald 0, zf_getR 18 23, zf_ic 4, zf_ild 1, zf_mul, zf_aldI 100, zf_ic2 .ne 84, zf_ald 0, zf_getR 18 3, zf_ild 4, zf_aldI 100, zf_ald 0, zf_getR 18 23, zf_ic 4, zf_ild 3, zf_mul, zf_aldI 100, zf_ic2 .ne 84, zf_ald 0, zf_getR 18 23, zf_ic 4, zf_ild 1, zf_mul, zf_ic 1, zf_add, zf_aldI 100, zf_ald 0, zf_getR 18 23, zf_ic 4, zf_ild 3, zf_mul, zf_ic 1, zf_add, zf_aldI 100, zf_ic2 .ne 84, zf_ild 2, zf_ild 4, zf_ic2 .eq 80, zf_ald 0, zf_getR 18 23, zf_ic 4, zf_ild 1, zf_mul, zf_ic 1, zf_add, zf_aldI 100, zf_ic 900, zf_ic2 .lt 84], 80),
  (80, [zf_ic 1, zf_go 85], 84),
  (84, [zf_ic 0], 85),
  (85, [zf_ist 5, zf_ic 0, zf_ist 6], 90),
  (90, [zf_ild 5, zf_if .eq 150, zf_ild 6, zf_ald 0, zf_ild 1, zf_inv h 18 22 1, zf_ic2 .ge 150, zf_ild 6, zf_ald 0, zf_ild 3, zf_inv h 18 22 1, zf_ic2 .ge 150, zf_ald 0, zf_ald 0, zf_ild 2, zf_ald 0, zf_ild 1, zf_ild 6, zf_inv h 18 21 2, zf_inv h 18 24 2, zf_ald 0, zf_ild 4, zf_ald 0, zf_ild 3, zf_ild 6, zf_inv h 18 21 2, zf_inv h 18 24 2, zf_inv h 18 12 2, zf_inc 6 1, zf_go 90], 150),
  (150, [zf_ret], 151)]
theorem zT18_14 (h : Nat) : zTab h 18 14 7 (zt18_14 h) := zTab.mk (ret := none) (bl := xk18_14) (by decide +kernel) (by decide +kernel) rfl rfl
def zt18_15 (h : Nat) : ZB := [(0, [zf_ic 0, zf_ist 8], 3),
  (3, [zf_ild 8, zf_ald 0, zf_getI 18 4, zf_ic2 .ge 53, zf_ald 0, zf_ild 8, zf_ild 3, zf_inv h 18 9 2, zf_if .eq 47, zf_ald 0, zf_ild 8, zf_lld 4, zf_lld 6, zf_inv h 18 2 3, zf_if .eq 47, zf_ald 0, zf_ild 1, zf_ic 16, zf_ild 8, zf_mul, zf_ild 2, zf_add, zf_inv h 18 12 2], 47),
  (47, [zf_inc 8 1, zf_go 3], 53),
  (53, [zf_ic 0, zf_ist 8], 56),
  (56, [zf_ild 8, zf_ald 0, zf_getI 18 11, zf_ic2 .ge 130, zf_ald 0, zf_getR 18 12, zf_ild 8, zf_aldI 100, zf_ild 3, zf_ic2 .ne 124, zf_ald 0, zf_getR 18 14, zf_ic 2, zf_ild 8, zf_mul, zf_aldL, zf_lld 4, zf_lcmp, zf_if .ne 124, zf_ald 0, zf_getR 18 14, zf_ic 2, zf_ild 8, zf_mul, zf_ic 1, zf_add, zf_aldL, zf_lld 6, zf_lcmp, zf_if .ne 124, zf_ald 0, zf_ild 1, zf_ic 1600, zf_ic 16, zf_ild 8, zf_mul, zf_add, zf_ild 2, zf_add, zf_inv h 18 12 2], 124),
  (124, [zf_inc 8 1, zf_go 56], 130),
  (130, [zf_ic 0, zf_ist 8], 133),
  (133, [zf_ild 8, zf_ald 0, zf_getI 18 15, zf_ic2 .ge 207, zf_ald 0, zf_getR 18 16, zf_ild 8, zf_aldI 100, zf_ild 3, zf_ic2 .ne 201, zf_ald 0, zf_getR 18 18, zf_ic 2, zf_ild 8, zf_mul, zf_aldL, zf_lld 4, zf_lcmp, zf_if .ne 201, zf_ald 0, zf_getR 18 18, zf_ic 2, zf_ild 8, zf_mul, zf_ic 1, zf_add, zf_aldL, zf_lld 6, zf_lcmp, zf_if .ne 201, zf_ald 0, zf_ild 1, zf_ic 2560, zf_ic 16, zf_ild 8, zf_mul, zf_add, zf_ild 2, zf_add, zf_inv h 18 12 2], 201),
  (201, [zf_inc 8 1, zf_go 133], 207),
  (207, [zf_ret], 208)]
theorem zT18_15 (h : Nat) : zTab h 18 15 9 (zt18_15 h) := zTab.mk (ret := none) (bl := xk18_15) (by decide +kernel) (by decide +kernel) rfl rfl
def zt18_16 (h : Nat) : ZB := [(0, [zf_ald 0, zf_getR 18 3, zf_ild 1, zf_aldI 100, zf_ist 2, zf_ald 0, zf_ild 1, zf_ild 2, zf_inv h 18 17 2, zf_ic 0, zf_ist 3], 15),
  (15, [zf_ild 3, zf_ald 0, zf_getI 18 11, zf_ic2 .ge 97, zf_ald 0, zf_getR 18 12, zf_ild 3, zf_aldI 100, zf_ild 2, zf_ic2 .eq 36, zf_go 91], 36),
  (36, [zf_ic 1600, zf_ic 16, zf_ild 3, zf_mul, zf_add, zf_ild 1, zf_add, zf_ist 4, zf_ald 0, zf_ild 4, zf_ild 1, zf_ild 2, zf_ald 0, zf_getR 18 14, zf_ic 2, zf_ild 3, zf_mul, zf_aldL, zf_ald 0, zf_getR 18 14, zf_ic 2, zf_ild 3, zf_mul, zf_ic 1, zf_add, zf_aldL, zf_inv h 18 15 5, zf_ald 0, zf_ild 4, zf_ald 0, zf_ild 1, zf_ald 0, zf_getR 18 13, zf_ild 3, zf_aldI 100, zf_inv h 18 24 2, zf_inv h 18 12 2], 91),
  (91, [zf_inc 3 1, zf_go 15], 97),
  (97, [zf_ic 0, zf_ist 3], 99),
  (99, [zf_ild 3, zf_ald 0, zf_getI 18 15, zf_ic2 .ge 157, zf_ald 0, zf_getR 18 16, zf_ild 3, zf_aldI 100, zf_ild 2, zf_ic2 .ne 151, zf_ald 0, zf_ic 2560, zf_ic 16, zf_ild 3, zf_mul, zf_add, zf_ild 1, zf_add, zf_ild 1, zf_ild 2, zf_ald 0, zf_getR 18 18, zf_ic 2, zf_ild 3, zf_mul, zf_aldL, zf_ald 0, zf_getR 18 18, zf_ic 2, zf_ild 3, zf_mul, zf_ic 1, zf_add, zf_aldL, zf_inv h 18 15 5], 151),
  (151, [zf_inc 3 1, zf_go 99], 157),
  (157, [zf_ret], 158)]
theorem zT18_16 (h : Nat) : zTab h 18 16 5 (zt18_16 h) := zTab.mk (ret := none) (bl := xk18_16) (by decide +kernel) (by decide +kernel) rfl rfl
def zt18_17 (h : Nat) : ZB := [(0, [zf_ic 0, zf_ist 3], 2),
  (2, [zf_ild 3, zf_ald 0, zf_getI 18 4, zf_ic2 .ge 204, zf_ic 0, zf_ist 4], 13),
  (13, [zf_ild 4, zf_ild 3, zf_ic2 .ge 198, zf_ald 0, zf_ild 3, zf_ild 2, zf_inv h 18 9 2, zf_if .eq 42, zf_ald 0, zf_ild 4, zf_ild 2, zf_inv h 18 9 2, zf_if .eq 42, zf_ic 1, zf_go 43], 42),
  (42, [zf_ic 0], 43),
  (43, [zf_ist 5, zf_ild 5, zf_if .eq 64, zf_ald 0, zf_ild 3, zf_ild 4, zf_inv h 18 4 2, zf_if .eq 64, zf_ic 1, zf_go 65], 64),
  (64, [zf_ic 0], 65),
  (65, [zf_ist 6, zf_ic 0, zf_ist 7], 70),
  (70, [zf_ild 7, zf_ald 0, zf_getI 18 8, zf_ic2 .ge 170, zf_ild 5, zf_if .eq 170, zf_ild 6, zf_if .ne 170, zf_ald 0, zf_getR 18 9, zf_ild 7, zf_aldI 100, zf_ild 2, zf_ic2 .ne 161, zf_ald 0, zf_ild 3, zf_ald 0, zf_getR 18 10, zf_ic 2, zf_ild 7, zf_mul, zf_aldL, zf_ald 0, zf_getR 18 10, zf_ic 2, zf_ild 7, zf_mul, zf_ic 1, zf_add, zf_aldL, zf_inv h 18 2 3, zf_if .eq 161, zf_ald 0, zf_ild 4, zf_ald 0, zf_getR 18 10, zf_ic 2, zf_ild 7, zf_mul, zf_aldL, zf_ald 0, zf_getR 18 10, zf_ic 2, zf_ild 7, zf_mul, zf_ic 1, zf_add, zf_aldL, zf_inv h 18 2 3, zf_if .eq 161, zf_ic 1, zf_go 162], 161),
  (161, [zf_ic 0], 162),
  (162, [zf_ist 6, zf_inc 7 1, zf_go 70], 170),
  (170, [zf_ild 6, zf_if .eq 192, zf_ald 0, zf_ic 16, zf_ild 3, zf_mul, zf_ild 1, zf_add, zf_ic 16, zf_ild 4, zf_mul, zf_ild 1, zf_add, zf_inv h 18 12 2], 192),
  (192, [zf_inc 4 1, zf_go 13], 198),
  (198, [zf_inc 3 1, zf_go 2], 204),
  (204, [zf_ret], 205)]
theorem zT18_17 (h : Nat) : zTab h 18 17 8 (zt18_17 h) := zTab.mk (ret := none) (bl := xk18_17) (by decide +kernel) (by decide +kernel) rfl rfl
def zt18_18 (h : Nat) : ZB := [(0, [zf_ald 0, zf_ald 0, zf_ild 1, zf_lld 2, zf_lld 4, zf_inst h 18 10 2, zf_inv h 18 31 2, zf_putI 18 0, zf_ald 0, zf_getI 18 0, zf_if .ne 31, zf_ald 0, zf_getI 18 8, zf_ic 50, zf_ic2 .ne 33], 31),
  (31, [zf_ic 0, zf_retz], 33),
  (33, [zf_ic 0, zf_ist 6], 36),
  (36, [zf_ild 6, zf_ald 0, zf_getI 18 8, zf_ic2 .ge 95, zf_ald 0, zf_getR 18 9, zf_ild 6, zf_aldI 100, zf_ild 1, zf_ic2 .ne 89, zf_ald 0, zf_getR 18 10, zf_ic 2, zf_ild 6, zf_mul, zf_aldL, zf_lld 2, zf_lcmp, zf_if .ne 89, zf_ald 0, zf_getR 18 10, zf_ic 2, zf_ild 6, zf_mul, zf_ic 1, zf_add, zf_aldL, zf_lld 4, zf_lcmp, zf_if .ne 89, zf_ic 0, zf_retz], 89),
  (89, [zf_inc 6 1, zf_go 36], 95),
  (95, [zf_ald 0, zf_getR 18 9, zf_ald 0, zf_getI 18 8, zf_ild 1, zf_astI, zf_ald 0, zf_getR 18 10, zf_ic 2, zf_ald 0, zf_getI 18 8, zf_mul, zf_lld 2, zf_astL, zf_ald 0, zf_getR 18 10, zf_ic 2, zf_ald 0, zf_getI 18 8, zf_mul, zf_ic 1, zf_add, zf_lld 4, zf_astL, zf_ald 0, zf_dup, zf_getI 18 8, zf_ic 1, zf_add, zf_putI 18 8, zf_ald 0, zf_inv h 18 0 0, zf_ic 1, zf_retz], 148)]
theorem zT18_18 (h : Nat) : zTab h 18 18 7 (zt18_18 h) := zTab.mk (ret := (some .boolean)) (bl := xk18_18) (by decide +kernel) (by decide +kernel) rfl rfl
def zt18_19 (h : Nat) : ZB := [(0, [zf_ald 0, zf_ald 0, zf_ild 1, zf_lld 2, zf_lld 4, zf_inst h 18 10 2, zf_if .eq 24, zf_ild 6, zf_inst h 18 8 1, zf_if .eq 24, zf_ic 1, zf_go 25], 24),
  (24, [zf_ic 0], 25),
  (25, [zf_inv h 18 31 2, zf_putI 18 0, zf_ald 0, zf_getI 18 0, zf_if .eq 40, zf_ic 0, zf_reti], 40),
  (40, [zf_ald 0, zf_getI 18 11, zf_ic 60, zf_ic2 .ne 51, zf_ic (-1), zf_reti], 51),
  (51, [zf_ald 0, zf_getR 18 12, zf_ald 0, zf_getI 18 11, zf_ild 1, zf_astI, zf_ald 0, zf_getR 18 13, zf_ald 0, zf_getI 18 11, zf_ild 6, zf_astI, zf_ald 0, zf_getR 18 14, zf_ic 2, zf_ald 0, zf_getI 18 11, zf_mul, zf_lld 2, zf_astL, zf_ald 0, zf_getR 18 14, zf_ic 2, zf_ald 0, zf_getI 18 11, zf_mul, zf_ic 1, zf_add, zf_lld 4, zf_astL, zf_ald 0, zf_dup, zf_getI 18 11, zf_ic 1, zf_add, zf_putI 18 11, zf_ald 0, zf_inv h 18 0 0, zf_ald 0, zf_getI 18 11, zf_ic 1, zf_sub, zf_reti], 120)]
theorem zT18_19 (h : Nat) : zTab h 18 19 7 (zt18_19 h) := zTab.mk (ret := (some .int)) (bl := xk18_19) (by decide +kernel) (by decide +kernel) rfl rfl
def zt18_20 (h : Nat) : ZB := [(0, [zf_ild 1, zf_ist 2], 2),
  (2, [zf_ald 0, zf_getR 18 25, zf_ild 2, zf_aldI 100, zf_ild 2, zf_ic2 .eq 22, zf_ald 0, zf_getR 18 25, zf_ild 2, zf_aldI 100, zf_ist 2, zf_go 2], 22),
  (22, [zf_ild 2, zf_reti], 24)]
theorem zT18_20 (h : Nat) : zTab h 18 20 3 (zt18_20 h) := zTab.mk (ret := (some .int)) (bl := xk18_20) (by decide +kernel) (by decide +kernel) rfl rfl
def zt18_21 (h : Nat) : ZB := [(0, [zf_ald 0, zf_getR 18 23, zf_ic 4, zf_ild 1, zf_mul, zf_ic 3, zf_add, zf_aldI 100, zf_ald 0, zf_getR 18 23, zf_ic 4, zf_ild 1, zf_mul, zf_ic 2, zf_add, zf_aldI 100, zf_ic2 .ge 38, zf_ald 0, zf_getR 18 23, zf_ic 4, zf_ild 1, zf_mul, zf_ic 2, zf_add, zf_aldI 100, zf_ild 2, zf_sub, zf_go 50], 38),
  (38, [zf_ald 0, zf_getR 18 23, zf_ic 4, zf_ild 1, zf_mul, zf_ic 2, zf_add, zf_aldI 100, zf_ild 2, zf_add], 50),
  (50, [zf_reti], 51)]
theorem zT18_21 (h : Nat) : zTab h 18 21 3 (zt18_21 h) := zTab.mk (ret := (some .int)) (bl := xk18_21) (by decide +kernel) (by decide +kernel) rfl rfl
def zt18_22 (h : Nat) : ZB := [(0, [zf_ald 0, zf_getR 18 23, zf_ic 4, zf_ild 1, zf_mul, zf_ic 3, zf_add, zf_aldI 100, zf_ald 0, zf_getR 18 23, zf_ic 4, zf_ild 1, zf_mul, zf_ic 2, zf_add, zf_aldI 100, zf_sub, zf_ist 2, zf_ic 1, zf_ild 2, zf_if .ge 33, zf_ic 0, zf_ild 2, zf_sub, zf_go 34], 33),
  (33, [zf_ild 2], 34),
  (34, [zf_add, zf_reti], 36)]
theorem zT18_22 (h : Nat) : zTab h 18 22 3 (zt18_22 h) := zTab.mk (ret := (some .int)) (bl := xk18_22) (by decide +kernel) (by decide +kernel) rfl rfl
def zt18_23 (h : Nat) : ZB := [(0, [zf_ald 0, zf_ild 1, zf_if .lt 17, zf_ild 1, zf_ald 0, zf_getI 18 29, zf_ic2 .ge 17, zf_ic 0, zf_go 18], 17),
  (17, [zf_ic 1], 18),
  (18, [zf_putI 18 0, zf_ald 0, zf_getI 18 0, zf_if .ne 36, zf_ald 0, zf_ild 1, zf_inv h 18 25 1, zf_go 37], 36),
  (36, [zf_ic 0], 37),
  (37, [zf_reti], 38)]
theorem zT18_23 (h : Nat) : zTab h 18 23 2 (zt18_23 h) := zTab.mk (ret := (some .int)) (bl := xk18_23) (by decide +kernel) (by decide +kernel) rfl rfl
def zt18_24 (h : Nat) : ZB := [(0, [zf_ic 3520, zf_ild 2, zf_ic 900, zf_ic2 .lt 14, zf_ic 0, zf_go 19], 14),
  (14, [zf_ic 1000, zf_ild 1, zf_mul], 19),
  (19, [zf_add, zf_ild 2, zf_add, zf_reti], 23)]
theorem zT18_24 (h : Nat) : zTab h 18 24 3 (zt18_24 h) := zTab.mk (ret := (some .int)) (bl := xk18_24) (by decide +kernel) (by decide +kernel) rfl rfl
def zt18_25 (h : Nat) : ZB := [(0, [zf_ic (-1), zf_ist 2, zf_ic 0, zf_ist 3], 4),
  (4, [zf_ild 3, zf_ic 1000, zf_ic2 .ge 48, zf_ild 2, zf_ic (-1), zf_ic2 .eq 31, zf_ald 0, zf_getR 18 24, zf_ild 3, zf_aldI 100, zf_ald 0, zf_getR 18 24, zf_ild 2, zf_aldI 100, zf_ic2 .le 42], 31),
  (31, [zf_ald 0, zf_ild 1, zf_ild 3, zf_inv h 18 3 2, zf_if .eq 42, zf_ild 3, zf_ist 2], 42),
  (42, [zf_inc 3 1, zf_go 4], 48),
  (48, [zf_ic 0, zf_ist 3], 50),
  (50, [zf_ild 2, zf_ic (-1), zf_ic2 .ne 71, zf_ald 0, zf_getR 18 27, zf_ild 3, zf_aldI 100, zf_ild 1, zf_ic2 .eq 71, zf_inc 3 1, zf_go 50], 71),
  (71, [zf_ild 2, zf_ic (-1), zf_ic2 .ne 85, zf_ic (-1), zf_ild 3, zf_ic 16, zf_div, zf_sub, zf_go 86], 85),
  (85, [zf_ild 2], 86),
  (86, [zf_reti], 87)]
theorem zT18_25 (h : Nat) : zTab h 18 25 4 (zt18_25 h) := zTab.mk (ret := (some .int)) (bl := xk18_25) (by decide +kernel) (by decide +kernel) rfl rfl
def zt18_26 (h : Nat) : ZB := [(0, [zf_ild 1, zf_if .lt 12, zf_ild 1, zf_ald 0, zf_getI 18 15, zf_ic2 .lt 16], 12),
  (12, [zf_ic (-1), zf_go 27], 16),
  (16, [zf_ald 0, zf_ald 0, zf_getR 18 16, zf_ild 1, zf_aldI 100, zf_ild 2, zf_inv h 18 1 2], 27),
  (27, [zf_ist 3, zf_ald 0, zf_ild 3, zf_ic (-1), zf_ic2 .ne 38, zf_ic 1, zf_go 39], 38),
  (38, [zf_ic 0], 39),
  (39, [zf_putI 18 0, zf_ald 0, zf_getI 18 0, zf_if .ne 63, zf_ald 0, zf_getR 18 27, zf_ic 16, zf_ild 1, zf_mul, zf_ild 3, zf_add, zf_aldI 100, zf_go 64], 63),
  (63, [zf_ic 0], 64),
  (64, [zf_reti], 65)]
theorem zT18_26 (h : Nat) : zTab h 18 26 4 (zt18_26 h) := zTab.mk (ret := (some .int)) (bl := xk18_26) (by decide +kernel) (by decide +kernel) rfl rfl
def zt18_27 (h : Nat) : ZB := [(0, [zf_ald 0, zf_ic 0, zf_putI 18 0, zf_ald 0, zf_getI 18 29, zf_reti], 10)]
theorem zT18_27 (h : Nat) : zTab h 18 27 1 (zt18_27 h) := zTab.mk (ret := (some .int)) (bl := xk18_27) (by decide +kernel) (by decide +kernel) rfl rfl
def zt18_28 (h : Nat) : ZB := [(0, [zf_ic 0, zf_ist 1], 2),
  (2, [zf_ild 1, zf_ic 19520, zf_ic2 .ge 22, zf_ald 0, zf_getR 18 26, zf_ild 1, zf_ic (-1), zf_astI, zf_inc 1 1, zf_go 2], 22),
  (22, [zf_ic 0, zf_ist 1], 24),
  (24, [zf_ild 1, zf_ic 960, zf_ic2 .ge 44, zf_ald 0, zf_getR 18 27, zf_ild 1, zf_ic (-1), zf_astI, zf_inc 1 1, zf_go 24], 44),
  (44, [zf_ald 0, zf_ic 0, zf_putI 18 29, zf_ic 0, zf_ist 1], 51),
  (51, [zf_ild 1, zf_ald 0, zf_getI 18 15, zf_ic2 .ge 166, zf_ald 0, zf_getR 18 16, zf_ild 1, zf_aldI 100, zf_ist 2], 66),
  (66, [zf_ild 2, zf_ald 0, zf_getI 18 1, zf_ic2 .ge 160, zf_ald 0, zf_getR 18 3, zf_ild 2, zf_aldI 100, zf_ald 0, zf_getR 18 16, zf_ild 1, zf_aldI 100, zf_ic2 .eq 92, zf_go 154], 92),
  (92, [zf_ald 0, zf_ic 2560, zf_ic 16, zf_ild 1, zf_mul, zf_add, zf_ild 2, zf_add, zf_inv h 18 20 1, zf_ist 3, zf_ald 0, zf_getR 18 26, zf_ild 3, zf_aldI 100, zf_ic (-1), zf_ic2 .ne 137, zf_ald 0, zf_getR 18 26, zf_ild 3, zf_ald 0, zf_getI 18 29, zf_astI, zf_ald 0, zf_dup, zf_getI 18 29, zf_ic 1, zf_add, zf_putI 18 29], 137),
  (137, [zf_ald 0, zf_getR 18 27, zf_ic 16, zf_ild 1, zf_mul, zf_ild 2, zf_add, zf_ald 0, zf_getR 18 26, zf_ild 3, zf_aldI 100, zf_astI], 154),
  (154, [zf_inc 2 1, zf_go 66], 160),
  (160, [zf_inc 1 1, zf_go 51], 166),
  (166, [zf_ret], 167)]
theorem zT18_28 (h : Nat) : zTab h 18 28 4 (zt18_28 h) := zTab.mk (ret := none) (bl := xk18_28) (by decide +kernel) (by decide +kernel) rfl rfl
def zt18_29 (h : Nat) : ZB := [(0, [zf_ald 0, zf_ald 0, zf_ild 1, zf_lld 2, zf_lld 4, zf_inst h 18 10 2, zf_inv h 18 31 2, zf_putI 18 0, zf_ald 0, zf_getI 18 0, zf_if .eq 24, zf_ic 0, zf_reti], 24),
  (24, [zf_ald 0, zf_getI 18 15, zf_ic 60, zf_ic2 .ne 35, zf_ic (-1), zf_reti], 35),
  (35, [zf_ic 0, zf_ist 7], 38),
  (38, [zf_ild 7, zf_ald 0, zf_getI 18 15, zf_ic2 .ge 109, zf_ald 0, zf_getR 18 16, zf_ild 7, zf_aldI 100, zf_ild 1, zf_ic2 .ne 103, zf_ald 0, zf_getR 18 17, zf_ild 7, zf_aldI 100, zf_ild 6, zf_ic2 .ne 103, zf_ald 0, zf_getR 18 18, zf_ic 2, zf_ild 7, zf_mul, zf_aldL, zf_lld 2, zf_lcmp, zf_if .ne 103, zf_ald 0, zf_getR 18 18, zf_ic 2, zf_ild 7, zf_mul, zf_ic 1, zf_add, zf_aldL, zf_lld 4, zf_lcmp, zf_if .ne 103, zf_ic (-1), zf_reti], 103),
  (103, [zf_inc 7 1, zf_go 38], 109),
  (109, [zf_ald 0, zf_getR 18 16, zf_ald 0, zf_getI 18 15, zf_ild 1, zf_astI, zf_ald 0, zf_getR 18 17, zf_ald 0, zf_getI 18 15, zf_ild 6, zf_astI, zf_ald 0, zf_getR 18 18, zf_ic 2, zf_ald 0, zf_getI 18 15, zf_mul, zf_lld 2, zf_astL, zf_ald 0, zf_getR 18 18, zf_ic 2, zf_ald 0, zf_getI 18 15, zf_mul, zf_ic 1, zf_add, zf_lld 4, zf_astL, zf_ald 0, zf_dup, zf_getI 18 15, zf_ic 1, zf_add, zf_putI 18 15, zf_ald 0, zf_inv h 18 0 0, zf_ald 0, zf_getI 18 15, zf_ic 1, zf_sub, zf_reti], 178)]
theorem zT18_29 (h : Nat) : zTab h 18 29 8 (zt18_29 h) := zTab.mk (ret := (some .int)) (bl := xk18_29) (by decide +kernel) (by decide +kernel) rfl rfl
def zt18_30 (h : Nat) : ZB := [(0, [zf_ald 0, zf_ild 1, zf_inv h 18 11 1, zf_if .eq 39, zf_ild 2, zf_if .lt 39, zf_ild 2, zf_ald 0, zf_getI 18 11, zf_ic2 .ge 39, zf_ald 0, zf_getR 18 12, zf_ild 2, zf_aldI 100, zf_ald 0, zf_getR 18 3, zf_ild 1, zf_aldI 100, zf_ic2 .ne 39, zf_ic 1, zf_go 40], 39),
  (39, [zf_ic 0], 40),
  (40, [zf_ist 4, zf_ald 0, zf_ild 4, zf_if .ne 52, zf_ic 1, zf_go 78], 52),
  (52, [zf_ald 0, zf_getR 18 2, zf_ild 1, zf_aldI 100, zf_ic (-1), zf_ic2 .ne 66, zf_ic 2, zf_go 78], 66),
  (66, [zf_ild 3, zf_inst h 18 8 1, zf_if .eq 77, zf_ic 0, zf_go 78], 77),
  (77, [zf_ic 3], 78),
  (78, [zf_putI 18 0, zf_ald 0, zf_getI 18 0, zf_if .ne 97, zf_ald 0, zf_getI 18 20, zf_ic 30, zf_ic2 .ne 99], 97),
  (97, [zf_ic 0, zf_retz], 99),
  (99, [zf_ic 0, zf_ist 5], 102),
  (102, [zf_ild 5, zf_ald 0, zf_getI 18 20, zf_ic2 .ge 162, zf_ald 0, zf_getR 18 21, zf_ic 3, zf_ild 5, zf_mul, zf_aldI 100, zf_ild 1, zf_ic2 .ne 156, zf_ald 0, zf_getR 18 21, zf_ic 3, zf_ild 5, zf_mul, zf_ic 1, zf_add, zf_aldI 100, zf_ild 2, zf_ic2 .ne 156, zf_ald 0, zf_getR 18 21, zf_ic 3, zf_ild 5, zf_mul, zf_ic 2, zf_add, zf_aldI 100, zf_ild 3, zf_ic2 .ne 156, zf_ic 0, zf_retz], 156),
  (156, [zf_inc 5 1, zf_go 102], 162),
  (162, [zf_ald 0, zf_getR 18 21, zf_ic 3, zf_ald 0, zf_getI 18 20, zf_mul, zf_ild 1, zf_astI, zf_ald 0, zf_getR 18 21, zf_ic 3, zf_ald 0, zf_getI 18 20, zf_mul, zf_ic 1, zf_add, zf_ild 2, zf_astI, zf_ald 0, zf_getR 18 21, zf_ic 3, zf_ald 0, zf_getI 18 20, zf_mul, zf_ic 2, zf_add, zf_ild 3, zf_astI, zf_ald 0, zf_dup, zf_getI 18 20, zf_ic 1, zf_add, zf_putI 18 20, zf_ald 0, zf_inv h 18 0 0, zf_ic 1, zf_retz], 218)]
theorem zT18_30 (h : Nat) : zTab h 18 30 6 (zt18_30 h) := zTab.mk (ret := (some .boolean)) (bl := xk18_30) (by decide +kernel) (by decide +kernel) rfl rfl
def zt18_31 (h : Nat) : ZB := [(0, [zf_ald 0, zf_ild 1, zf_inv h 18 11 1, zf_if .ne 10, zf_ic 1, zf_reti], 10),
  (10, [zf_ald 0, zf_getR 18 3, zf_ild 1, zf_aldI 100, zf_ild 1, zf_ic2 .eq 24, zf_ic 2, zf_go 33], 24),
  (24, [zf_ild 2, zf_if .eq 32, zf_ic 0, zf_go 33], 32),
  (32, [zf_ic 3], 33),
  (33, [zf_reti], 34)]
theorem zT18_31 (h : Nat) : zTab h 18 31 3 (zt18_31 h) := zTab.mk (ret := (some .int)) (bl := xk18_31) (by decide +kernel) (by decide +kernel) rfl rfl
def zt18_32 (h : Nat) : ZB := [(0, [zf_ild 1, zf_ic (-1), zf_ic2 .eq 13, zf_ald 0, zf_ild 1, zf_inv h 18 11 1, zf_if .eq 30], 13),
  (13, [zf_ild 2, zf_ic (-1), zf_ic2 .eq 26, zf_ald 0, zf_ild 2, zf_inv h 18 11 1, zf_if .eq 30], 26),
  (26, [zf_ic 1, zf_go 31], 30),
  (30, [zf_ic 0], 31),
  (31, [zf_ist 3, zf_ald 0, zf_ild 3, zf_if .ne 41, zf_ic 1, zf_go 61], 41),
  (41, [zf_ild 2, zf_ic (-1), zf_ic2 .eq 60, zf_ald 0, zf_getR 18 3, zf_ild 2, zf_aldI 100, zf_ild 2, zf_ic2 .eq 60, zf_ic 2, zf_go 61], 60),
  (60, [zf_ic 0], 61),
  (61, [zf_putI 18 0, zf_ald 0, zf_getI 18 0, zf_if .eq 73, zf_ic 0, zf_reti], 73),
  (73, [zf_ald 0, zf_getI 18 1, zf_ic 16, zf_ic2 .ne 84, zf_ic (-1), zf_reti], 84),
  (84, [zf_ald 0, zf_getR 18 2, zf_ald 0, zf_getI 18 1, zf_ild 1, zf_astI, zf_ald 0, zf_getR 18 3, zf_ald 0, zf_getI 18 1, zf_ild 2, zf_ic (-1), zf_ic2 .ne 114, zf_ald 0, zf_getI 18 1, zf_go 115], 114),
  (114, [zf_ild 2], 115),
  (115, [zf_astI, zf_ald 0, zf_dup, zf_getI 18 1, zf_ic 1, zf_add, zf_putI 18 1, zf_ald 0, zf_inv h 18 0 0, zf_ald 0, zf_getI 18 1, zf_ic 1, zf_sub, zf_reti], 137)]
theorem zT18_32 (h : Nat) : zTab h 18 32 4 (zt18_32 h) := zTab.mk (ret := (some .int)) (bl := xk18_32) (by decide +kernel) (by decide +kernel) rfl rfl
def zt18_33 (h : Nat) : ZB := [(0, [zf_ald 0, zf_getI 18 0, zf_reti], 5)]
theorem zT18_33 (h : Nat) : zTab h 18 33 1 (zt18_33 h) := zTab.mk (ret := (some .int)) (bl := xk18_33) (by decide +kernel) (by decide +kernel) rfl rfl
def zt18_34 (h : Nat) : ZB := [(0, [zf_ald 0, zf_ic 0, zf_putI 18 0, zf_ild 1, zf_if .ge 11, zf_ic (-1), zf_reti], 11),
  (11, [zf_ild 1, zf_ist 2, zf_ic 0, zf_ist 3], 15),
  (15, [zf_ild 3, zf_ald 0, zf_getI 18 29, zf_ic2 .ge 94, zf_ald 0, zf_ild 3, zf_inv h 18 25 1, zf_ist 4, zf_ic 0, zf_ist 5], 33),
  (33, [zf_ild 5, zf_ic 1000, zf_ic2 .ge 88, zf_ild 4, zf_if .lt 88, zf_ild 5, zf_ild 4, zf_ic2 .eq 82, zf_ald 0, zf_ild 3, zf_ild 5, zf_inv h 18 3 2, zf_if .ne 66, zf_go 82], 66),
  (66, [zf_ild 2, zf_if .ne 79, zf_ic 1000, zf_ild 3, zf_mul, zf_ild 5, zf_add, zf_reti], 79),
  (79, [zf_inc 2 (-1)], 82),
  (82, [zf_inc 5 1, zf_go 33], 88),
  (88, [zf_inc 3 1, zf_go 15], 94),
  (94, [zf_ic 0, zf_ist 3], 96),
  (96, [zf_ild 3, zf_ald 0, zf_getI 18 11, zf_ic2 .ge 133, zf_ald 0, zf_ild 3, zf_inv h 18 6 1, zf_if .ne 115, zf_go 127], 115),
  (115, [zf_ild 2, zf_if .ne 124, zf_ic 100000000, zf_ild 3, zf_add, zf_reti], 124),
  (124, [zf_inc 2 (-1)], 127),
  (127, [zf_inc 3 1, zf_go 96], 133),
  (133, [zf_ic 0, zf_ist 3], 135),
  (135, [zf_ild 3, zf_ald 0, zf_getI 18 15, zf_ic2 .ge 181, zf_ald 0, zf_getR 18 19, zf_ild 3, zf_aldB, zf_if .eq 175, zf_ald 0, zf_ild 3, zf_inv h 18 7 1, zf_if .ne 163, zf_go 175], 163),
  (163, [zf_ild 2, zf_if .ne 172, zf_ic 200000000, zf_ild 3, zf_add, zf_reti], 172),
  (172, [zf_inc 2 (-1)], 175),
  (175, [zf_inc 3 1, zf_go 135], 181),
  (181, [zf_ic (-1), zf_reti], 183)]
theorem zT18_34 (h : Nat) : zTab h 18 34 6 (zt18_34 h) := zTab.mk (ret := (some .int)) (bl := xk18_34) (by decide +kernel) (by decide +kernel) rfl rfl
def zt18_35 (h : Nat) : ZB := [(0, [zf_ic 0, zf_ist 2], 2),
  (2, [zf_ald 0, zf_getR 18 27, zf_ild 2, zf_aldI 100, zf_ild 1, zf_ic2 .eq 18, zf_inc 2 1, zf_go 2], 18),
  (18, [zf_ald 0, zf_getR 18 28, zf_ild 2, zf_aldI 100, zf_ist 3, zf_ild 3, zf_ic (-1), zf_ic2 .ne 32, zf_ic 0, zf_retz], 32),
  (32, [zf_ic 1, zf_ist 4, zf_ic 0, zf_ist 5], 38),
  (38, [zf_ild 5, zf_ic 960, zf_ic2 .ge 99, zf_ild 4, zf_if .eq 90, zf_ald 0, zf_getR 18 27, zf_ild 5, zf_aldI 100, zf_ild 1, zf_ic2 .ne 66, zf_ic 1, zf_go 67], 66),
  (66, [zf_ic 0], 67),
  (67, [zf_ald 0, zf_getR 18 28, zf_ild 5, zf_aldI 100, zf_ild 3, zf_ic2 .ne 82, zf_ic 1, zf_go 83], 82),
  (82, [zf_ic 0], 83),
  (83, [zf_ic2 .ne 90, zf_ic 1, zf_go 91], 90),
  (90, [zf_ic 0], 91),
  (91, [zf_ist 4, zf_inc 5 1, zf_go 38], 99),
  (99, [zf_ild 4, zf_retz], 102)]
theorem zT18_35 (h : Nat) : zTab h 18 35 6 (zt18_35 h) := zTab.mk (ret := (some .boolean)) (bl := xk18_35) (by decide +kernel) (by decide +kernel) rfl rfl
def zt18_36 (h : Nat) : ZB := [(0, [zf_ald 0, zf_ald 0, zf_ild 1, zf_lld 2, zf_lld 4, zf_inst h 18 10 2, zf_if .eq 41, zf_lld 6, zf_lld 8, zf_inst h 18 10 2, zf_if .eq 41, zf_lld 2, zf_lld 6, zf_lcmp, zf_if .ne 37, zf_lld 4, zf_lld 8, zf_lcmp, zf_if .eq 41], 37),
  (37, [zf_ic 1, zf_go 42], 41),
  (41, [zf_ic 0], 42),
  (42, [zf_inv h 18 31 2, zf_putI 18 0, zf_ald 0, zf_getI 18 0, zf_if .eq 57, zf_ic 0, zf_reti], 57),
  (57, [zf_ald 0, zf_getI 18 4, zf_ic 100, zf_ic2 .ne 68, zf_ic (-1), zf_reti], 68),
  (68, [zf_ald 0, zf_getR 18 5, zf_ald 0, zf_getI 18 4, zf_ild 1, zf_astI, zf_ald 0, zf_getR 18 6, zf_ic 4, zf_ald 0, zf_getI 18 4, zf_mul, zf_lld 2, zf_astL, zf_ald 0, zf_getR 18 6, zf_ic 4, zf_ald 0, zf_getI 18 4, zf_mul, zf_ic 1, zf_add, zf_lld 4, zf_astL, zf_ald 0, zf_getR 18 6, zf_ic 4, zf_ald 0, zf_getI 18 4, zf_mul, zf_ic 2, zf_add, zf_lld 6, zf_astL, zf_ald 0, zf_getR 18 6, zf_ic 4, zf_ald 0, zf_getI 18 4, zf_mul, zf_ic 3, zf_add, zf_lld 8, zf_astL, zf_ald 0, zf_dup, zf_getI 18 4, zf_ic 1, zf_add, zf_putI 18 4, zf_ald 0, zf_inv h 18 0 0, zf_ald 0, zf_getI 18 4, zf_ic 1, zf_sub, zf_reti], 156)]
theorem zT18_36 (h : Nat) : zTab h 18 36 10 (zt18_36 h) := zTab.mk (ret := (some .int)) (bl := xk18_36) (by decide +kernel) (by decide +kernel) rfl rfl
