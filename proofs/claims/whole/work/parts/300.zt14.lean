/-! TABLES of what methods of class 14 ask -/
def zt14_0 (h : Nat) : ZB := [(0, [zf_ild 1, zf_ic 1, zf_ic2 .ne 13, zf_ald 0, zf_ild 2, zf_inv h 14 14 1, zf_go 50], 13),
  (13, [zf_ild 1, zf_ic 4, zf_ic2 .ne 36, zf_ald 0, zf_getR 14 5, zf_ild 2, zf_aldI 100, zf_ic 2, zf_ic2 .ne 32, zf_ic 1, zf_go 50], 32),
  (32, [zf_ic 0, zf_go 50], 36),
  (36, [zf_ald 0, zf_getR 14 5, zf_ild 2, zf_aldI 100, zf_if .ne 49, zf_ic 1, zf_go 50], 49),
  (49, [zf_ic 0], 50),
  (50, [zf_ist 3, zf_ild 3, zf_if .eq 65, zf_ald 0, zf_ild 1, zf_ild 2, zf_ic (-1), zf_inv h 14 30 3, zf_go 66], 65),
  (65, [zf_ic (-1)], 66),
  (66, [zf_ist 4, zf_ild 4, zf_ic (-1), zf_ic2 .ne 76, zf_ic 0, zf_retz], 76),
  (76, [zf_ild 1, zf_sw 199 1 5 [112, 199, 199, 139, 160]], 112),
  (112, [zf_lc 2, zf_ald 0, zf_getR 14 10, zf_ild 2, zf_aldL, zf_lmul, zf_ald 0, zf_getR 14 15, zf_ild 4, zf_aldL, zf_lcmp, zf_if .ge 137, zf_ic 1, zf_go 138], 137),
  (137, [zf_ic 0], 138),
  (138, [zf_retz], 139),
  (139, [zf_ald 0, zf_ild 2, zf_ald 0, zf_getR 14 15, zf_ild 4, zf_aldL, zf_inv h 14 19 2, zf_if .ne 158, zf_ic 1, zf_go 159], 158),
  (158, [zf_ic 0], 159),
  (159, [zf_retz], 160),
  (160, [zf_ald 0, zf_ild 2, zf_ic 8, zf_ild 2, zf_mul, zf_inv h 14 16 2, zf_if .eq 193, zf_ald 0, zf_ild 2, zf_ic 8, zf_ild 2, zf_mul, zf_ald 0, zf_getR 14 7, zf_ild 2, zf_aldI 100, zf_add, zf_ic 1, zf_sub, zf_inv h 14 16 2, zf_if .ne 197], 193),
  (193, [zf_ic 1, zf_go 198], 197),
  (197, [zf_ic 0], 198),
  (198, [zf_retz], 199),
  (199, [zf_ald 0, zf_ild 2, zf_inv h 14 10 1, zf_retz], 205)]
theorem zT14_0 (h : Nat) : zTab h 14 0 5 (zt14_0 h) := zTab.mk (ret := (some .boolean)) (bl := xk14_0) (by decide +kernel) (by decide +kernel) rfl rfl
def zt14_1 (h : Nat) : ZB := [(0, [zf_ald 0, zf_ald 0, zf_ild 1, zf_inv h 14 20 1, zf_if .ne 13, zf_ic 1, zf_go 47], 13),
  (13, [zf_ald 0, zf_getR 14 10, zf_ild 1, zf_aldL, zf_lc 0, zf_lcmp, zf_if .le 28, zf_ic 2, zf_go 47], 28),
  (28, [zf_lld 2, zf_lc 1, zf_lcmp, zf_if .lt 42, zf_lld 2, zf_lc 100000, zf_lcmp, zf_if .le 46], 42),
  (42, [zf_ic 3, zf_go 47], 46),
  (46, [zf_ic 0], 47),
  (47, [zf_putI 14 0, zf_ald 0, zf_getI 14 0, zf_if .ne 66, zf_ald 0, zf_getR 14 7, zf_ild 1, zf_aldI 100, zf_if .ne 68], 66),
  (66, [zf_ic 0, zf_retz], 68),
  (68, [zf_ald 0, zf_getR 14 10, zf_ild 1, zf_lld 2, zf_astL, zf_ic 1, zf_retz], 77)]
theorem zT14_1 (h : Nat) : zTab h 14 1 4 (zt14_1 h) := zTab.mk (ret := (some .boolean)) (bl := xk14_1) (by decide +kernel) (by decide +kernel) rfl rfl
def zt14_2 (h : Nat) : ZB := [(0, [zf_ald 0, zf_ald 0, zf_ild 1, zf_inv h 14 20 1, zf_if .ne 13, zf_ic 1, zf_go 28], 13),
  (13, [zf_ild 2, zf_if .lt 23, zf_ild 2, zf_ic 7, zf_ic2 .le 27], 23),
  (23, [zf_ic 2, zf_go 28], 27),
  (27, [zf_ic 0], 28),
  (28, [zf_putI 14 0, zf_ald 0, zf_getI 14 0, zf_if .ne 48, zf_ald 0, zf_getR 14 6, zf_ild 1, zf_aldI 100, zf_ild 2, zf_ic2 .ne 50], 48),
  (48, [zf_ic 0, zf_retz], 50),
  (50, [zf_ald 0, zf_getR 14 6, zf_ild 1, zf_ild 2, zf_astI, zf_ic 1, zf_retz], 59)]
theorem zT14_2 (h : Nat) : zTab h 14 2 3 (zt14_2 h) := zTab.mk (ret := (some .boolean)) (bl := xk14_2) (by decide +kernel) (by decide +kernel) rfl rfl
def zt14_3 (h : Nat) : ZB := [(0, [zf_lld 0, zf_lld 2, zf_inst h 14 34 2, zf_lst 8, zf_lld 4, zf_lld 6, zf_inst h 14 34 2, zf_lst 10, zf_lld 8, zf_lld 10, zf_lcmp, zf_if .eq 38, zf_lld 8, zf_lld 10, zf_lcmp, zf_if .ge 36, zf_ic (-1), zf_go 37], 36),
  (36, [zf_ic 1], 37),
  (37, [zf_reti], 38),
  (38, [zf_lld 0, zf_lld 2, zf_inst h 14 24 2, zf_lst 8, zf_lld 4, zf_lld 6, zf_inst h 14 24 2, zf_lst 10, zf_lld 8, zf_lld 10, zf_lcmp, zf_if .ge 66, zf_ic (-1), zf_go 79], 66),
  (66, [zf_lld 8, zf_lld 10, zf_lcmp, zf_if .le 78, zf_ic 1, zf_go 79], 78),
  (78, [zf_ic 0], 79),
  (79, [zf_reti], 80)]
theorem zT14_3 (h : Nat) : zTab h 14 3 12 (zt14_3 h) := zTab.mk (ret := (some .int)) (bl := xk14_3) (by decide +kernel) (by decide +kernel) rfl rfl
def zt14_4 (h : Nat) : ZB := [(0, [zf_ald 0, zf_ald 0, zf_ild 1, zf_inv h 14 20 1, zf_if .ne 13, zf_ic 1, zf_go 42], 13),
  (13, [zf_ald 0, zf_getR 14 10, zf_ild 1, zf_aldL, zf_lc 0, zf_lcmp, zf_if .le 28, zf_ic 2, zf_go 42], 28),
  (28, [zf_lld 2, zf_lld 4, zf_inst h 14 18 2, zf_if .eq 41, zf_ic 0, zf_go 42], 41),
  (41, [zf_ic 3], 42),
  (42, [zf_putI 14 0, zf_ald 0, zf_getI 14 0, zf_if .ne 63, zf_ald 0, zf_getR 14 7, zf_ild 1, zf_aldI 100, zf_ic 8, zf_ic2 .ne 65], 63),
  (63, [zf_ic 0, zf_retz], 65),
  (65, [zf_ic 8, zf_ild 1, zf_mul, zf_ald 0, zf_getR 14 7, zf_ild 1, zf_aldI 100, zf_add, zf_ist 6, zf_ald 0, zf_getR 14 7, zf_ild 1, zf_aldI 100, zf_if .le 118, zf_ald 0, zf_getR 14 8, zf_ild 6, zf_ic 1, zf_sub, zf_aldL, zf_lld 2, zf_lcmp, zf_if .ne 118, zf_ald 0, zf_getR 14 9, zf_ild 6, zf_ic 1, zf_sub, zf_aldL, zf_lld 4, zf_lcmp, zf_if .ne 118, zf_ic 0, zf_retz], 118),
  (118, [zf_ald 0, zf_getR 14 8, zf_ild 6, zf_lld 2, zf_astL, zf_ald 0, zf_getR 14 9, zf_ild 6, zf_lld 4, zf_astL, zf_ald 0, zf_getR 14 7, zf_ild 1, zf_dup2, zf_aldI 100, zf_ic 1, zf_add, zf_astI, zf_ic 1, zf_retz], 147)]
theorem zT14_4 (h : Nat) : zTab h 14 4 7 (zt14_4 h) := zTab.mk (ret := (some .boolean)) (bl := xk14_4) (by decide +kernel) (by decide +kernel) rfl rfl
def zt14_5 (h : Nat) : ZB := [(0, [zf_ald 0, zf_getR 14 7, zf_ild 1, zf_aldI 100, zf_ic 1, zf_ic2 .ne 17, zf_ic 8, zf_ild 1, zf_mul, zf_go 25], 17),
  (17, [zf_ic 8, zf_ild 1, zf_mul, zf_ild 2, zf_add, zf_ic 1, zf_add], 25),
  (25, [zf_reti], 26)]
theorem zT14_5 (h : Nat) : zTab h 14 5 3 (zt14_5 h) := zTab.mk (ret := (some .int)) (bl := xk14_5) (by decide +kernel) (by decide +kernel) rfl rfl
def zt14_6 (h : Nat) : ZB := [(0, [zf_ald 0, zf_ic 0, zf_putI 14 17, zf_ic 0, zf_ist 1], 7),
  (7, [zf_ild 1, zf_ald 0, zf_getI 14 2, zf_ic2 .ge 171, zf_ald 0, zf_getR 14 10, zf_ild 1, zf_aldL, zf_lc 0, zf_lcmp, zf_if .ne 29, zf_go 165], 29),
  (29, [zf_ic 1, zf_ist 2], 31),
  (31, [zf_ild 2, zf_ic 7, zf_ic2 .ge 69, zf_ild 2, zf_ic 2, zf_ic2 .eq 63, zf_ild 2, zf_ic 3, zf_ic2 .eq 63, zf_ald 0, zf_ild 2, zf_ild 1, zf_inv h 14 0 2, zf_if .eq 63, zf_ald 0, zf_ild 2, zf_ild 1, zf_ic (-1), zf_inv h 14 27 3], 63),
  (63, [zf_inc 2 1, zf_go 31], 69),
  (69, [zf_ic 0, zf_ist 2], 71),
  (71, [zf_ild 2, zf_ild 1, zf_ic2 .ge 165, zf_ald 0, zf_getR 14 10, zf_ild 2, zf_aldL, zf_lc 0, zf_lcmp, zf_if .ne 90, zf_go 159], 90),
  (90, [zf_ic 0, zf_ist 3], 92),
  (92, [zf_ild 3, zf_ic 4, zf_ic2 .ge 159, zf_ild 3, zf_ic 1, zf_ic2 .eq 153, zf_ald 0, zf_ild 3, zf_ild 1, zf_ild 2, zf_inv h 14 15 3, zf_if .ne 115, zf_go 153], 115),
  (115, [zf_ald 0, zf_ild 3, zf_ild 1, zf_ild 2, zf_inv h 14 30 3, zf_ist 4, zf_ild 4, zf_ic (-1), zf_ic2 .eq 153, zf_ald 0, zf_ild 1, zf_ild 2, zf_ald 0, zf_getR 14 15, zf_ild 4, zf_aldL, zf_inv h 14 11 3, zf_if .ne 153, zf_ald 0, zf_ild 3, zf_ild 2, zf_ild 1, zf_inv h 14 27 3], 153),
  (153, [zf_inc 3 1, zf_go 92], 159),
  (159, [zf_inc 2 1, zf_go 71], 165),
  (165, [zf_inc 1 1, zf_go 7], 171),
  (171, [zf_ret], 172)]
theorem zT14_6 (h : Nat) : zTab h 14 6 5 (zt14_6 h) := zTab.mk (ret := none) (bl := xk14_6) (by decide +kernel) (by decide +kernel) rfl rfl
def zt14_7 (h : Nat) : ZB := [(0, [zf_lld 8, zf_lld 4, zf_lsub, zf_lst 14, zf_lld 10, zf_lld 6, zf_lsub, zf_lst 16, zf_lld 0, zf_lld 4, zf_lsub, zf_lld 14, zf_lmul, zf_lld 2, zf_lld 6, zf_lsub, zf_lld 16, zf_lmul, zf_ladd, zf_lst 18, zf_lld 14, zf_lld 14, zf_lmul, zf_lld 16, zf_lld 16, zf_lmul, zf_ladd, zf_lst 20, zf_lld 18, zf_lc 0, zf_lcmp, zf_if .le 109, zf_lld 18, zf_lld 20, zf_lcmp, zf_if .ge 109, zf_lld 14, zf_lld 2, zf_lld 6, zf_lsub, zf_lmul, zf_lld 16, zf_lld 0, zf_lld 4, zf_lsub, zf_lmul, zf_lsub, zf_lst 22, zf_lld 22, zf_lc 0, zf_lcmp, zf_if .ge 90, zf_lc 0, zf_lld 22, zf_lsub, zf_go 92], 90),
  (90, [zf_lld 22], 92),
  (92, [zf_lst 22, zf_lld 22, zf_lld 22, zf_lld 12, zf_lld 12, zf_lmul, zf_lld 20, zf_inst h 14 3 4, zf_reti], 109),
  (109, [zf_lld 18, zf_lc 0, zf_lcmp, zf_if .gt 123, zf_lld 0, zf_lld 4, zf_lsub, zf_go 127], 123),
  (123, [zf_lld 0, zf_lld 8, zf_lsub], 127),
  (127, [zf_lst 22, zf_lld 18, zf_lc 0, zf_lcmp, zf_if .gt 143, zf_lld 2, zf_lld 6, zf_lsub, zf_go 147], 143),
  (143, [zf_lld 2, zf_lld 10, zf_lsub], 147),
  (147, [zf_lst 24, zf_lld 22, zf_lld 22, zf_lmul, zf_lld 24, zf_lld 24, zf_lmul, zf_ladd, zf_lst 26, zf_lld 26, zf_lld 12, zf_lld 12, zf_lmul, zf_lcmp, zf_if .ge 177, zf_ic (-1), zf_go 193], 177),
  (177, [zf_lld 26, zf_lld 12, zf_lld 12, zf_lmul, zf_lcmp, zf_if .le 192, zf_ic 1, zf_go 193], 192),
  (192, [zf_ic 0], 193),
  (193, [zf_reti], 194)]
theorem zT14_7 (h : Nat) : zTab h 14 7 28 (zt14_7 h) := zTab.mk (ret := (some .int)) (bl := xk14_7) (by decide +kernel) (by decide +kernel) rfl rfl
def zt14_8 (h : Nat) : ZB := [(0, [zf_ald 0, zf_getR 14 3, zf_ild 1, zf_aldI 100, zf_ic (-1), zf_ic2 .eq 29, zf_ald 0, zf_getR 14 3, zf_ild 1, zf_aldI 100, zf_ald 0, zf_getR 14 3, zf_ild 2, zf_aldI 100, zf_ic2 .ne 29, zf_ic 1, zf_go 30], 29),
  (29, [zf_ic 0], 30),
  (30, [zf_retz], 31)]
theorem zT14_8 (h : Nat) : zTab h 14 8 3 (zt14_8 h) := zTab.mk (ret := (some .boolean)) (bl := xk14_8) (by decide +kernel) (by decide +kernel) rfl rfl
def zt14_9 (h : Nat) : ZB := [(0, [zf_ald 0, zf_ini, zf_ald 0, zf_ic 60, zf_newA 100, zf_putR 14 3, zf_ald 0, zf_ic 60, zf_newA 100, zf_putR 14 4, zf_ald 0, zf_ic 60, zf_newA 100, zf_putR 14 5, zf_ald 0, zf_ic 60, zf_newA 100, zf_putR 14 6, zf_ald 0, zf_ic 60, zf_newA 100, zf_putR 14 7, zf_ald 0, zf_ic 480, zf_newA 101, zf_putR 14 8, zf_ald 0, zf_ic 480, zf_newA 101, zf_putR 14 9, zf_ald 0, zf_ic 60, zf_newA 101, zf_putR 14 10, zf_ald 0, zf_ic 30, zf_newA 100, zf_putR 14 12, zf_ald 0, zf_ic 30, zf_newA 100, zf_putR 14 13, zf_ald 0, zf_ic 30, zf_newA 100, zf_putR 14 14, zf_ald 0, zf_ic 30, zf_newA 101, zf_putR 14 15, zf_ald 0, zf_ic 8, zf_putI 14 16, zf_ald 0, zf_ic 6300, zf_newA 100, zf_putR 14 18, zf_ald 0, zf_ic 6300, zf_newA 100, zf_putR 14 20, zf_ald 0, zf_ic 2100, zf_newA 101, zf_putR 14 21, zf_ald 0, zf_ic 2100, zf_newA 101, zf_putR 14 22, zf_ald 0, zf_ic 180, zf_newA 100, zf_putR 14 24, zf_ald 0, zf_ild 1, zf_ic 1, zf_ic2 .ge 163, zf_ic 1, zf_go 175], 163),
  (163, [zf_ild 1, zf_ic 16, zf_ic2 .le 174, zf_ic 16, zf_go 175], 174),
  (174, [zf_ild 1], 175),
  (175, [zf_putI 14 1, zf_ret], 179)]
theorem zT14_9 (h : Nat) : zTab h 14 9 2 (zt14_9 h) := zTab.mk (ret := none) (bl := xk14_9) (by decide +kernel) (by decide +kernel) rfl rfl
def zt14_10 (h : Nat) : ZB := [(0, [zf_ic 8, zf_ild 1, zf_mul, zf_ic 1, zf_add, zf_ist 2], 7),
  (7, [zf_ild 2, zf_ic 8, zf_ild 1, zf_mul, zf_ald 0, zf_getR 14 7, zf_ild 1, zf_aldI 100, zf_add, zf_ic 1, zf_sub, zf_ic2 .ge 102, zf_ald 0, zf_getR 14 8, zf_ild 2, zf_ic 1, zf_sub, zf_aldL, zf_ald 0, zf_getR 14 8, zf_ild 2, zf_aldL, zf_lsub, zf_ald 0, zf_getR 14 8, zf_ild 2, zf_ic 1, zf_add, zf_aldL, zf_ald 0, zf_getR 14 8, zf_ild 2, zf_aldL, zf_lsub, zf_lmul, zf_ald 0, zf_getR 14 9, zf_ild 2, zf_ic 1, zf_sub, zf_aldL, zf_ald 0, zf_getR 14 9, zf_ild 2, zf_aldL, zf_lsub, zf_ald 0, zf_getR 14 9, zf_ild 2, zf_ic 1, zf_add, zf_aldL, zf_ald 0, zf_getR 14 9, zf_ild 2, zf_aldL, zf_lsub, zf_lmul, zf_ladd, zf_lst 3, zf_lld 3, zf_lc 0, zf_lcmp, zf_if .le 96, zf_ic 1, zf_retz], 96),
  (96, [zf_inc 2 1, zf_go 7], 102),
  (102, [zf_ic 0, zf_retz], 104)]
theorem zT14_10 (h : Nat) : zTab h 14 10 5 (zt14_10 h) := zTab.mk (ret := (some .boolean)) (bl := xk14_10) (by decide +kernel) (by decide +kernel) rfl rfl
def zt14_11 (h : Nat) : ZB := [(0, [zf_ald 0, zf_getR 14 10, zf_ild 1, zf_aldL, zf_ald 0, zf_getR 14 10, zf_ild 2, zf_aldL, zf_ladd, zf_lld 3, zf_ladd, zf_lst 5, zf_ald 0, zf_ild 1, zf_ild 2, zf_inv h 14 23 2, zf_if .eq 28, zf_ic 0, zf_retz], 28),
  (28, [zf_ic 8, zf_ild 1, zf_mul, zf_ist 7], 34),
  (34, [zf_ild 7, zf_ic 8, zf_ild 1, zf_mul, zf_ald 0, zf_getR 14 7, zf_ild 1, zf_aldI 100, zf_add, zf_ic2 .ge 82, zf_ald 0, zf_ald 0, zf_getR 14 8, zf_ild 7, zf_aldL, zf_ald 0, zf_getR 14 9, zf_ild 7, zf_aldL, zf_ild 2, zf_lld 5, zf_inv h 14 26 4, zf_if .ge 76, zf_ic 0, zf_retz], 76),
  (76, [zf_inc 7 1, zf_go 34], 82),
  (82, [zf_ic 8, zf_ild 2, zf_mul, zf_ist 7], 88),
  (88, [zf_ild 7, zf_ic 8, zf_ild 2, zf_mul, zf_ald 0, zf_getR 14 7, zf_ild 2, zf_aldI 100, zf_add, zf_ic2 .ge 136, zf_ald 0, zf_ald 0, zf_getR 14 8, zf_ild 7, zf_aldL, zf_ald 0, zf_getR 14 9, zf_ild 7, zf_aldL, zf_ild 1, zf_lld 5, zf_inv h 14 26 4, zf_if .ge 130, zf_ic 0, zf_retz], 130),
  (130, [zf_inc 7 1, zf_go 88], 136),
  (136, [zf_ic 1, zf_retz], 138)]
theorem zT14_11 (h : Nat) : zTab h 14 11 8 (zt14_11 h) := zTab.mk (ret := (some .boolean)) (bl := xk14_11) (by decide +kernel) (by decide +kernel) rfl rfl
def zt14_12 (h : Nat) : ZB := [(0, [zf_ald 0, zf_getR 14 18, zf_ic 3, zf_ild 1, zf_mul, zf_ic 1, zf_add, zf_aldI 100, zf_ist 5, zf_ald 0, zf_getR 14 4, zf_ild 5, zf_aldI 100, zf_ald 0, zf_getR 14 4, zf_ild 3, zf_aldI 100, zf_sub, zf_i2l, zf_lst 6, zf_lld 6, zf_lc 0, zf_lcmp, zf_if .eq 41, zf_lld 6, zf_go 63], 41),
  (41, [zf_ald 0, zf_getR 14 8, zf_ic 8, zf_ild 5, zf_mul, zf_aldL, zf_ald 0, zf_getR 14 8, zf_ic 8, zf_ild 3, zf_mul, zf_aldL, zf_inst h 14 28 2], 63),
  (63, [zf_lst 6, zf_lld 6, zf_lc 0, zf_lcmp, zf_if .eq 77, zf_lld 6, zf_go 99], 77),
  (77, [zf_ald 0, zf_getR 14 9, zf_ic 8, zf_ild 5, zf_mul, zf_aldL, zf_ald 0, zf_getR 14 9, zf_ic 8, zf_ild 3, zf_mul, zf_aldL, zf_inst h 14 28 2], 99),
  (99, [zf_lst 6, zf_lld 6, zf_lc 0, zf_lcmp, zf_if .eq 113, zf_lld 6, zf_go 124], 113),
  (113, [zf_ald 0, zf_getR 14 18, zf_ic 3, zf_ild 1, zf_mul, zf_aldI 100, zf_ild 2, zf_sub, zf_i2l], 124),
  (124, [zf_lst 6, zf_lld 6, zf_lc 0, zf_lcmp, zf_if .eq 138, zf_lld 6, zf_go 143], 138),
  (138, [zf_ild 5, zf_ild 3, zf_sub, zf_i2l], 143),
  (143, [zf_lst 6, zf_lld 6, zf_lc 0, zf_lcmp, zf_if .eq 157, zf_lld 6, zf_go 171], 157),
  (157, [zf_ald 0, zf_getR 14 18, zf_ic 3, zf_ild 1, zf_mul, zf_ic 2, zf_add, zf_aldI 100, zf_ild 4, zf_sub, zf_i2l], 171),
  (171, [zf_lst 6, zf_lld 6, zf_lc 0, zf_lcmp, zf_if .le 184, zf_ic 1, zf_go 185], 184),
  (184, [zf_ic 0], 185),
  (185, [zf_retz], 186)]
theorem zT14_12 (h : Nat) : zTab h 14 12 8 (zt14_12 h) := zTab.mk (ret := (some .boolean)) (bl := xk14_12) (by decide +kernel) (by decide +kernel) rfl rfl
def zt14_13 (h : Nat) : ZB := [(0, [zf_ild 0, zf_ic (-1), zf_ic2 .lt 15, zf_ild 0, zf_ic 8, zf_ic2 .ge 15, zf_ic 1, zf_go 16], 15),
  (15, [zf_ic 0], 16),
  (16, [zf_retz], 17)]
theorem zT14_13 (h : Nat) : zTab h 14 13 1 (zt14_13 h) := zTab.mk (ret := (some .boolean)) (bl := xk14_13) (by decide +kernel) (by decide +kernel) rfl rfl
def zt14_14 (h : Nat) : ZB := [(0, [zf_ald 0, zf_getR 14 5, zf_ild 1, zf_aldI 100, zf_if .eq 19, zf_ald 0, zf_getR 14 5, zf_ild 1, zf_aldI 100, zf_ic 1, zf_ic2 .ne 23], 19),
  (19, [zf_ic 1, zf_go 24], 23),
  (23, [zf_ic 0], 24),
  (24, [zf_retz], 25)]
theorem zT14_14 (h : Nat) : zTab h 14 14 2 (zt14_14 h) := zTab.mk (ret := (some .boolean)) (bl := xk14_14) (by decide +kernel) (by decide +kernel) rfl rfl
def zt14_15 (h : Nat) : ZB := [(0, [zf_ild 1, zf_lk 100 [(0, 28), (2, 74)]], 28),
  (28, [zf_ald 0, zf_ild 2, zf_inv h 14 14 1, zf_if .eq 72, zf_ald 0, zf_ild 3, zf_inv h 14 14 1, zf_if .eq 72, zf_ald 0, zf_getR 14 4, zf_ild 2, zf_aldI 100, zf_ald 0, zf_getR 14 4, zf_ild 3, zf_aldI 100, zf_ic2 .ne 72, zf_ald 0, zf_ild 2, zf_ild 3, zf_inv h 14 8 2, zf_if .ne 72, zf_ic 1, zf_go 73], 72),
  (72, [zf_ic 0], 73),
  (73, [zf_retz], 74),
  (74, [zf_ald 0, zf_getR 14 5, zf_ild 2, zf_aldI 100, zf_ic 2, zf_ic2 .ne 98, zf_ald 0, zf_getR 14 5, zf_ild 3, zf_aldI 100, zf_ic 2, zf_ic2 .ne 98, zf_ic 1, zf_go 99], 98),
  (98, [zf_ic 0], 99),
  (99, [zf_retz], 100),
  (100, [zf_ald 0, zf_getR 14 4, zf_ild 2, zf_aldI 100, zf_ald 0, zf_getR 14 4, zf_ild 3, zf_aldI 100, zf_ic2 .ne 159, zf_ald 0, zf_getR 14 5, zf_ild 2, zf_aldI 100, zf_ic 3, zf_ic2 .ne 135, zf_ald 0, zf_getR 14 5, zf_ild 3, zf_aldI 100, zf_ic 1, zf_ic2 .eq 155], 135),
  (135, [zf_ald 0, zf_getR 14 5, zf_ild 2, zf_aldI 100, zf_ic 1, zf_ic2 .ne 159, zf_ald 0, zf_getR 14 5, zf_ild 3, zf_aldI 100, zf_ic 3, zf_ic2 .ne 159], 155),
  (155, [zf_ic 1, zf_go 160], 159),
  (159, [zf_ic 0], 160),
  (160, [zf_retz], 161)]
theorem zT14_15 (h : Nat) : zTab h 14 15 4 (zt14_15 h) := zTab.mk (ret := (some .boolean)) (bl := xk14_15) (by decide +kernel) (by decide +kernel) rfl rfl
def zt14_16 (h : Nat) : ZB := [(0, [zf_ic 0, zf_ist 3], 2),
  (2, [zf_ild 3, zf_ald 0, zf_getI 14 2, zf_ic2 .ge 104, zf_ild 3, zf_ild 1, zf_ic2 .eq 62, zf_ald 0, zf_getR 14 10, zf_ild 3, zf_aldL, zf_lc 0, zf_lcmp, zf_if .le 62, zf_ald 0, zf_ild 3, zf_inv h 14 14 1, zf_if .eq 62, zf_ald 0, zf_getR 14 4, zf_ild 3, zf_aldI 100, zf_ald 0, zf_getR 14 4, zf_ild 1, zf_aldI 100, zf_ic2 .ne 62, zf_ald 0, zf_ild 1, zf_ild 3, zf_inv h 14 8 2, zf_if .eq 62, zf_ic 1, zf_go 63], 62),
  (62, [zf_ic 0], 63),
  (63, [zf_ist 4, zf_ild 4, zf_if .eq 98, zf_ald 0, zf_ald 0, zf_getR 14 8, zf_ild 2, zf_aldL, zf_ald 0, zf_getR 14 9, zf_ild 2, zf_aldL, zf_ild 3, zf_ald 0, zf_getR 14 10, zf_ild 3, zf_aldL, zf_inv h 14 26 4, zf_if .gt 98, zf_ic 1, zf_retz], 98),
  (98, [zf_inc 3 1, zf_go 2], 104),
  (104, [zf_ic 0, zf_retz], 106)]
theorem zT14_16 (h : Nat) : zTab h 14 16 5 (zt14_16 h) := zTab.mk (ret := (some .boolean)) (bl := xk14_16) (by decide +kernel) (by decide +kernel) rfl rfl
def zt14_17 (h : Nat) : ZB := [(0, [zf_ild 0, zf_ic (-1), zf_ic2 .eq 10, zf_ild 0, zf_ild 1, zf_ic2 .ne 14], 10),
  (10, [zf_ic 1, zf_go 15], 14),
  (14, [zf_ic 0], 15),
  (15, [zf_retz], 16)]
theorem zT14_17 (h : Nat) : zTab h 14 17 2 (zt14_17 h) := zTab.mk (ret := (some .boolean)) (bl := xk14_17) (by decide +kernel) (by decide +kernel) rfl rfl
def zt14_18 (h : Nat) : ZB := [(0, [zf_lld 0, zf_lc (-1000000), zf_lcmp, zf_if .lt 36, zf_lld 0, zf_lc 1000000, zf_lcmp, zf_if .gt 36, zf_lld 2, zf_lc (-1000000), zf_lcmp, zf_if .lt 36, zf_lld 2, zf_lc 1000000, zf_lcmp, zf_if .gt 36, zf_ic 1, zf_go 37], 36),
  (36, [zf_ic 0], 37),
  (37, [zf_retz], 38)]
theorem zT14_18 (h : Nat) : zTab h 14 18 4 (zt14_18 h) := zTab.mk (ret := (some .boolean)) (bl := xk14_18) (by decide +kernel) (by decide +kernel) rfl rfl
def zt14_19 (h : Nat) : ZB := [(0, [zf_ic 0, zf_ist 4], 3),
  (3, [zf_ild 4, zf_ald 0, zf_getI 14 2, zf_ic2 .ge 158, zf_ald 0, zf_getR 14 5, zf_ild 4, zf_aldI 100, zf_ic 1, zf_ic2 .ne 152, zf_ald 0, zf_getR 14 10, zf_ild 4, zf_aldL, zf_lc 0, zf_lcmp, zf_if .eq 152, zf_ald 0, zf_ild 1, zf_ild 4, zf_inv h 14 8 2, zf_if .ne 48, zf_go 152], 48),
  (48, [zf_ald 0, zf_getR 14 10, zf_ild 4, zf_aldL, zf_ald 0, zf_getR 14 10, zf_ild 1, zf_aldL, zf_lsub, zf_lld 2, zf_lsub, zf_lst 5, zf_lld 5, zf_lc 0, zf_lcmp, zf_if .lt 77, zf_ic 1, zf_go 78], 77),
  (77, [zf_ic 0], 78),
  (78, [zf_ist 7, zf_ic 8, zf_ild 1, zf_mul, zf_ist 8], 86),
  (86, [zf_ild 8, zf_ic 8, zf_ild 1, zf_mul, zf_ald 0, zf_getR 14 7, zf_ild 1, zf_aldI 100, zf_add, zf_ic2 .ge 145, zf_ild 7, zf_if .eq 145, zf_ald 0, zf_ald 0, zf_getR 14 8, zf_ild 8, zf_aldL, zf_ald 0, zf_getR 14 9, zf_ild 8, zf_aldL, zf_ild 4, zf_lld 5, zf_inv h 14 26 4, zf_if .gt 136, zf_ic 1, zf_go 137], 136),
  (136, [zf_ic 0], 137),
  (137, [zf_ist 7, zf_inc 8 1, zf_go 86], 145),
  (145, [zf_ild 7, zf_if .eq 152, zf_ic 1, zf_retz], 152),
  (152, [zf_inc 4 1, zf_go 3], 158),
  (158, [zf_ic 0, zf_retz], 160)]
theorem zT14_19 (h : Nat) : zTab h 14 19 9 (zt14_19 h) := zTab.mk (ret := (some .boolean)) (bl := xk14_19) (by decide +kernel) (by decide +kernel) rfl rfl
def zt14_20 (h : Nat) : ZB := [(0, [zf_ild 1, zf_if .lt 16, zf_ild 1, zf_ald 0, zf_getI 14 2, zf_ic2 .ge 16, zf_ic 1, zf_go 17], 16),
  (16, [zf_ic 0], 17),
  (17, [zf_retz], 18)]
theorem zT14_20 (h : Nat) : zTab h 14 20 2 (zt14_20 h) := zTab.mk (ret := (some .boolean)) (bl := xk14_20) (by decide +kernel) (by decide +kernel) rfl rfl
def zt14_21 (h : Nat) : ZB := [(0, [zf_ild 1, zf_if .lt 16, zf_ild 1, zf_ald 0, zf_getI 14 19, zf_ic2 .ge 16, zf_ic 1, zf_go 17], 16),
  (16, [zf_ic 0], 17),
  (17, [zf_retz], 18)]
theorem zT14_21 (h : Nat) : zTab h 14 21 2 (zt14_21 h) := zTab.mk (ret := (some .boolean)) (bl := xk14_21) (by decide +kernel) (by decide +kernel) rfl rfl
def zt14_22 (h : Nat) : ZB := [(0, [zf_ic 0, zf_ist 2], 2),
  (2, [zf_ild 2, zf_ald 0, zf_getI 14 23, zf_ic2 .ge 74, zf_ic 1, zf_ist 3, zf_ic 0, zf_ist 4], 15),
  (15, [zf_ild 4, zf_ic 3, zf_ic2 .ge 62, zf_ild 3, zf_if .eq 54, zf_ald 0, zf_getR 14 24, zf_ic 3, zf_ild 2, zf_mul, zf_ild 4, zf_add, zf_aldI 100, zf_ald 0, zf_getR 14 20, zf_ic 3, zf_ild 1, zf_mul, zf_ild 4, zf_add, zf_aldI 100, zf_ic2 .ne 54, zf_ic 1, zf_go 55], 54),
  (54, [zf_ic 0], 55),
  (55, [zf_ist 3, zf_inc 4 1, zf_go 15], 62),
  (62, [zf_ild 3, zf_if .eq 68, zf_ic 1, zf_retz], 68),
  (68, [zf_inc 2 1, zf_go 2], 74),
  (74, [zf_ic 0, zf_retz], 76)]
theorem zT14_22 (h : Nat) : zTab h 14 22 5 (zt14_22 h) := zTab.mk (ret := (some .boolean)) (bl := xk14_22) (by decide +kernel) (by decide +kernel) rfl rfl
def zt14_23 (h : Nat) : ZB := [(0, [zf_ic 0, zf_ist 3], 2),
  (2, [zf_ild 3, zf_ald 0, zf_ild 1, zf_inv h 14 25 1, zf_ic2 .ge 284, zf_ic 8, zf_ild 1, zf_mul, zf_ild 3, zf_add, zf_ist 4, zf_ald 0, zf_ild 1, zf_ild 3, zf_inv h 14 5 2, zf_ist 5, zf_ic 0, zf_ist 6], 30),
  (30, [zf_ild 6, zf_ald 0, zf_ild 2, zf_inv h 14 25 1, zf_ic2 .ge 278, zf_ic 8, zf_ild 2, zf_mul, zf_ild 6, zf_add, zf_ist 7, zf_ald 0, zf_ild 2, zf_ild 6, zf_inv h 14 5 2, zf_ist 8, zf_ald 0, zf_getR 14 8, zf_ild 4, zf_aldL, zf_ald 0, zf_getR 14 9, zf_ild 4, zf_aldL, zf_ald 0, zf_getR 14 8, zf_ild 5, zf_aldL, zf_ald 0, zf_getR 14 9, zf_ild 5, zf_aldL, zf_ald 0, zf_getR 14 8, zf_ild 7, zf_aldL, zf_ald 0, zf_getR 14 9, zf_ild 7, zf_aldL, zf_inst h 14 33 6, zf_ald 0, zf_getR 14 8, zf_ild 4, zf_aldL, zf_ald 0, zf_getR 14 9, zf_ild 4, zf_aldL, zf_ald 0, zf_getR 14 8, zf_ild 5, zf_aldL, zf_ald 0, zf_getR 14 9, zf_ild 5, zf_aldL, zf_ald 0, zf_getR 14 8, zf_ild 8, zf_aldL, zf_ald 0, zf_getR 14 9, zf_ild 8, zf_aldL, zf_inst h 14 33 6, zf_mul, zf_if .ge 156, zf_ic 1, zf_go 157], 156),
  (156, [zf_ic 0], 157),
  (157, [zf_ist 9, zf_ald 0, zf_getR 14 8, zf_ild 7, zf_aldL, zf_ald 0, zf_getR 14 9, zf_ild 7, zf_aldL, zf_ald 0, zf_getR 14 8, zf_ild 8, zf_aldL, zf_ald 0, zf_getR 14 9, zf_ild 8, zf_aldL, zf_ald 0, zf_getR 14 8, zf_ild 4, zf_aldL, zf_ald 0, zf_getR 14 9, zf_ild 4, zf_aldL, zf_inst h 14 33 6, zf_ald 0, zf_getR 14 8, zf_ild 7, zf_aldL, zf_ald 0, zf_getR 14 9, zf_ild 7, zf_aldL, zf_ald 0, zf_getR 14 8, zf_ild 8, zf_aldL, zf_ald 0, zf_getR 14 9, zf_ild 8, zf_aldL, zf_ald 0, zf_getR 14 8, zf_ild 5, zf_aldL, zf_ald 0, zf_getR 14 9, zf_ild 5, zf_aldL, zf_inst h 14 33 6, zf_mul, zf_if .ge 257, zf_ic 1, zf_go 258], 257),
  (257, [zf_ic 0], 258),
  (258, [zf_ist 10, zf_ild 9, zf_if .eq 272, zf_ild 10, zf_if .eq 272, zf_ic 1, zf_retz], 272),
  (272, [zf_inc 6 1, zf_go 30], 278),
  (278, [zf_inc 3 1, zf_go 2], 284),
  (284, [zf_ic 0, zf_retz], 286)]
theorem zT14_23 (h : Nat) : zTab h 14 23 11 (zt14_23 h) := zTab.mk (ret := (some .boolean)) (bl := xk14_23) (by decide +kernel) (by decide +kernel) rfl rfl
def zt14_24 (h : Nat) : ZB := [(0, [zf_lld 0, zf_lld 2, zf_lmul, zf_lc 4611686018427387903, zf_lbit zland, zf_retl], 8)]
theorem zT14_24 (h : Nat) : zTab h 14 24 4 (zt14_24 h) := zTab.mk (ret := (some .long)) (bl := xk14_24) (by decide +kernel) (by decide +kernel) rfl rfl
def zt14_25 (h : Nat) : ZB := [(0, [zf_ald 0, zf_getR 14 7, zf_ild 1, zf_aldI 100, zf_ic 1, zf_ic2 .ne 14, zf_ic 1, zf_go 22], 14),
  (14, [zf_ald 0, zf_getR 14 7, zf_ild 1, zf_aldI 100, zf_ic 1, zf_sub], 22),
  (22, [zf_reti], 23)]
theorem zT14_25 (h : Nat) : zTab h 14 25 2 (zt14_25 h) := zTab.mk (ret := (some .int)) (bl := xk14_25) (by decide +kernel) (by decide +kernel) rfl rfl
def zt14_26 (h : Nat) : ZB := [(0, [zf_ic 1, zf_ist 8, zf_ic 0, zf_ist 9], 6),
  (6, [zf_ild 9, zf_ald 0, zf_ild 5, zf_inv h 14 25 1, zf_ic2 .ge 96, zf_ic 8, zf_ild 5, zf_mul, zf_ild 9, zf_add, zf_ist 10, zf_ald 0, zf_ild 5, zf_ild 9, zf_inv h 14 5 2, zf_ist 11, zf_lld 1, zf_lld 3, zf_ald 0, zf_getR 14 8, zf_ild 10, zf_aldL, zf_ald 0, zf_getR 14 9, zf_ild 10, zf_aldL, zf_ald 0, zf_getR 14 8, zf_ild 11, zf_aldL, zf_ald 0, zf_getR 14 9, zf_ild 11, zf_aldL, zf_lld 6, zf_inst h 14 7 7, zf_ist 12, zf_ild 12, zf_ild 8, zf_ic2 .ge 86, zf_ild 12, zf_go 88], 86),
  (86, [zf_ild 8], 88),
  (88, [zf_ist 8, zf_inc 9 1, zf_go 6], 96),
  (96, [zf_ild 8, zf_reti], 99)]
theorem zT14_26 (h : Nat) : zTab h 14 26 13 (zt14_26 h) := zTab.mk (ret := (some .int)) (bl := xk14_26) (by decide +kernel) (by decide +kernel) rfl rfl
def zt14_27 (h : Nat) : ZB := [(0, [zf_ald 0, zf_getI 14 17, zf_ist 4], 6),
  (6, [zf_ild 4, zf_if .le 72, zf_ald 0, zf_ild 4, zf_ic 1, zf_sub, zf_ild 1, zf_ild 2, zf_ild 3, zf_inv h 14 12 4, zf_if .eq 72, zf_ic 0, zf_ist 5], 28),
  (28, [zf_ild 5, zf_ic 3, zf_ic2 .ge 66, zf_ald 0, zf_getR 14 18, zf_ic 3, zf_ild 4, zf_mul, zf_ild 5, zf_add, zf_ald 0, zf_getR 14 18, zf_ic 3, zf_ild 4, zf_mul, zf_ic 3, zf_sub, zf_ild 5, zf_add, zf_aldI 100, zf_astI, zf_inc 5 1, zf_go 28], 66),
  (66, [zf_inc 4 (-1), zf_go 6], 72),
  (72, [zf_ald 0, zf_getR 14 18, zf_ic 3, zf_ild 4, zf_mul, zf_ild 1, zf_astI, zf_ald 0, zf_getR 14 18, zf_ic 3, zf_ild 4, zf_mul, zf_ic 1, zf_add, zf_ild 2, zf_astI, zf_ald 0, zf_getR 14 18, zf_ic 3, zf_ild 4, zf_mul, zf_ic 2, zf_add, zf_ild 3, zf_astI, zf_ald 0, zf_dup, zf_getI 14 17, zf_ic 1, zf_add, zf_putI 14 17, zf_ret], 117)]
theorem zT14_27 (h : Nat) : zTab h 14 27 6 (zt14_27 h) := zTab.mk (ret := none) (bl := xk14_27) (by decide +kernel) (by decide +kernel) rfl rfl
def zt14_28 (h : Nat) : ZB := [(0, [zf_lld 0, zf_lld 2, zf_lcmp, zf_if .ge 12, zf_lc (-1), zf_go 23], 12),
  (12, [zf_lld 0, zf_lld 2, zf_lcmp, zf_if .le 22, zf_lc 1, zf_go 23], 22),
  (22, [zf_lc 0], 23),
  (23, [zf_retl], 24)]
theorem zT14_28 (h : Nat) : zTab h 14 28 4 (zt14_28 h) := zTab.mk (ret := (some .long)) (bl := xk14_28) (by decide +kernel) (by decide +kernel) rfl rfl
def zt14_29 (h : Nat) : ZB := [(0, [zf_ild 1, zf_if .lt 53, zf_ild 1, zf_ic 7, zf_ic2 .ge 53, zf_ild 2, zf_inst h 14 13 1, zf_if .eq 53, zf_ild 3, zf_inst h 14 13 1, zf_if .eq 53, zf_lld 4, zf_lc 0, zf_lcmp, zf_if .lt 53, zf_lld 4, zf_ild 1, zf_ic 5, zf_ic2 .ge 44, zf_lc 100000, zf_go 45], 44),
  (44, [zf_lc 0], 45),
  (45, [zf_lcmp, zf_if .gt 53, zf_ic 1, zf_go 54], 53),
  (53, [zf_ic 0], 54),
  (54, [zf_ist 6, zf_ald 0, zf_ild 6, zf_if .eq 66, zf_ic 0, zf_go 67], 66),
  (66, [zf_ic 1], 67),
  (67, [zf_putI 14 0, zf_ald 0, zf_getI 14 0, zf_if .eq 79, zf_ic 0, zf_reti], 79),
  (79, [zf_ald 0, zf_getI 14 11, zf_ic 30, zf_ic2 .ne 90, zf_ic (-1), zf_reti], 90),
  (90, [zf_ald 0, zf_getR 14 12, zf_ald 0, zf_getI 14 11, zf_ild 1, zf_astI, zf_ald 0, zf_getR 14 13, zf_ald 0, zf_getI 14 11, zf_ild 2, zf_astI, zf_ald 0, zf_getR 14 14, zf_ald 0, zf_getI 14 11, zf_ild 3, zf_astI, zf_ald 0, zf_getR 14 15, zf_ald 0, zf_getI 14 11, zf_lld 4, zf_astL, zf_ald 0, zf_dup, zf_getI 14 11, zf_ic 1, zf_add, zf_putI 14 11, zf_ald 0, zf_getI 14 11, zf_ic 1, zf_sub, zf_reti], 148)]
theorem zT14_29 (h : Nat) : zTab h 14 29 7 (zt14_29 h) := zTab.mk (ret := (some .int)) (bl := xk14_29) (by decide +kernel) (by decide +kernel) rfl rfl
def zt14_30 (h : Nat) : ZB := [(0, [zf_ic (-1), zf_ist 4, zf_ic 0, zf_ist 5], 6),
  (6, [zf_ild 5, zf_ald 0, zf_getI 14 11, zf_ic2 .ge 156, zf_ald 0, zf_getR 14 12, zf_ild 5, zf_aldI 100, zf_ild 1, zf_ic2 .eq 29, zf_go 150], 29),
  (29, [zf_ild 3, zf_ic (-1), zf_ic2 .ne 53, zf_ald 0, zf_getR 14 13, zf_ild 5, zf_aldI 100, zf_ald 0, zf_getR 14 6, zf_ild 2, zf_aldI 100, zf_inst h 14 17 2, zf_go 134], 53),
  (53, [zf_ald 0, zf_getR 14 13, zf_ild 5, zf_aldI 100, zf_ald 0, zf_getR 14 6, zf_ild 2, zf_aldI 100, zf_inst h 14 17 2, zf_if .eq 91, zf_ald 0, zf_getR 14 14, zf_ild 5, zf_aldI 100, zf_ald 0, zf_getR 14 6, zf_ild 3, zf_aldI 100, zf_inst h 14 17 2, zf_if .ne 129], 91),
  (91, [zf_ald 0, zf_getR 14 13, zf_ild 5, zf_aldI 100, zf_ald 0, zf_getR 14 6, zf_ild 3, zf_aldI 100, zf_inst h 14 17 2, zf_if .eq 133, zf_ald 0, zf_getR 14 14, zf_ild 5, zf_aldI 100, zf_ald 0, zf_getR 14 6, zf_ild 2, zf_aldI 100, zf_inst h 14 17 2, zf_if .eq 133], 129),
  (129, [zf_ic 1, zf_go 134], 133),
  (133, [zf_ic 0], 134),
  (134, [zf_ist 6, zf_ild 6, zf_if .eq 146, zf_ild 5, zf_go 148], 146),
  (146, [zf_ild 4], 148),
  (148, [zf_ist 4], 150),
  (150, [zf_inc 5 1, zf_go 6], 156),
  (156, [zf_ild 4, zf_reti], 159)]
theorem zT14_30 (h : Nat) : zTab h 14 30 7 (zt14_30 h) := zTab.mk (ret := (some .int)) (bl := xk14_30) (by decide +kernel) (by decide +kernel) rfl rfl
def zt14_31 (h : Nat) : ZB := [(0, [zf_ald 0, zf_ild 1, zf_ic 1, zf_ic2 .lt 16, zf_ild 1, zf_ic 8, zf_ic2 .gt 16, zf_ic 0, zf_go 17], 16),
  (16, [zf_ic 1], 17),
  (17, [zf_putI 14 0, zf_ald 0, zf_getI 14 0, zf_if .eq 29, zf_ic 0, zf_reti], 29),
  (29, [zf_ald 0, zf_inv h 14 6 0, zf_ald 0, zf_ald 0, zf_getI 14 17, zf_putI 14 19, zf_ic 0, zf_ist 4, zf_ic 0, zf_ist 5], 47),
  (47, [zf_ild 5, zf_ald 0, zf_getI 14 19, zf_ic2 .ge 172, zf_ic 0, zf_ist 6], 59),
  (59, [zf_ild 6, zf_ic 3, zf_ic2 .ge 95, zf_ald 0, zf_getR 14 20, zf_ic 3, zf_ild 5, zf_mul, zf_ild 6, zf_add, zf_ald 0, zf_getR 14 18, zf_ic 3, zf_ild 5, zf_mul, zf_ild 6, zf_add, zf_aldI 100, zf_astI, zf_inc 6 1, zf_go 59], 95),
  (95, [zf_ald 0, zf_getR 14 21, zf_ild 5, zf_ald 0, zf_getR 14 8, zf_ic 8, zf_ald 0, zf_getR 14 20, zf_ic 3, zf_ild 5, zf_mul, zf_ic 1, zf_add, zf_aldI 100, zf_mul, zf_aldL, zf_astL, zf_ald 0, zf_getR 14 22, zf_ild 5, zf_ald 0, zf_getR 14 9, zf_ic 8, zf_ald 0, zf_getR 14 20, zf_ic 3, zf_ild 5, zf_mul, zf_ic 1, zf_add, zf_aldI 100, zf_mul, zf_aldL, zf_astL, zf_ild 4, zf_ald 0, zf_ild 5, zf_inv h 14 22 1, zf_if .eq 162, zf_ic 0, zf_go 163], 162),
  (162, [zf_ic 1], 163),
  (163, [zf_add, zf_ist 4, zf_inc 5 1, zf_go 47], 172),
  (172, [zf_ild 4, zf_reti], 175)]
theorem zT14_31 (h : Nat) : zTab h 14 31 7 (zt14_31 h) := zTab.mk (ret := (some .int)) (bl := xk14_31) (by decide +kernel) (by decide +kernel) rfl rfl
def zt14_32 (h : Nat) : ZB := [(0, [zf_ild 1, zf_ic (-1), zf_ic2 .lt 25, zf_ild 1, zf_ic 1000, zf_ic2 .ge 25, zf_ild 3, zf_if .lt 25, zf_ild 3, zf_ic 4, zf_ic2 .ge 25, zf_ic 1, zf_go 26], 25),
  (25, [zf_ic 0], 26),
  (26, [zf_ist 4, zf_ald 0, zf_ild 2, zf_if .lt 41, zf_ild 2, zf_ald 0, zf_getI 14 1, zf_ic2 .lt 45], 41),
  (41, [zf_ic 1, zf_go 55], 45),
  (45, [zf_ild 4, zf_if .eq 54, zf_ic 0, zf_go 55], 54),
  (54, [zf_ic 2], 55),
  (55, [zf_putI 14 0, zf_ald 0, zf_getI 14 0, zf_if .eq 67, zf_ic 0, zf_reti], 67),
  (67, [zf_ald 0, zf_getI 14 2, zf_ic 60, zf_ic2 .ne 78, zf_ic (-1), zf_reti], 78),
  (78, [zf_ald 0, zf_getR 14 3, zf_ald 0, zf_getI 14 2, zf_ild 1, zf_astI, zf_ald 0, zf_getR 14 4, zf_ald 0, zf_getI 14 2, zf_ild 2, zf_astI, zf_ald 0, zf_getR 14 5, zf_ald 0, zf_getI 14 2, zf_ild 3, zf_astI, zf_ald 0, zf_dup, zf_getI 14 2, zf_ic 1, zf_add, zf_putI 14 2, zf_ald 0, zf_getI 14 2, zf_ic 1, zf_sub, zf_reti], 125)]
theorem zT14_32 (h : Nat) : zTab h 14 32 5 (zt14_32 h) := zTab.mk (ret := (some .int)) (bl := xk14_32) (by decide +kernel) (by decide +kernel) rfl rfl
def zt14_33 (h : Nat) : ZB := [(0, [zf_lld 4, zf_lld 0, zf_lsub, zf_lld 10, zf_lld 2, zf_lsub, zf_lmul, zf_lld 6, zf_lld 2, zf_lsub, zf_lld 8, zf_lld 0, zf_lsub, zf_lmul, zf_lsub, zf_lst 12, zf_lld 12, zf_lc 0, zf_lcmp, zf_if .ge 32, zf_ic (-1), zf_go 44], 32),
  (32, [zf_lld 12, zf_lc 0, zf_lcmp, zf_if .le 43, zf_ic 1, zf_go 44], 43),
  (43, [zf_ic 0], 44),
  (44, [zf_reti], 45)]
theorem zT14_33 (h : Nat) : zTab h 14 33 14 (zt14_33 h) := zTab.mk (ret := (some .int)) (bl := xk14_33) (by decide +kernel) (by decide +kernel) rfl rfl
def zt14_34 (h : Nat) : ZB := [(0, [zf_lld 0, zf_ic 31, zf_lsh zlshr, zf_lst 4, zf_lld 0, zf_lc 2147483647, zf_lbit zland, zf_lst 6, zf_lld 2, zf_ic 31, zf_lsh zlshr, zf_lst 8, zf_lld 2, zf_lc 2147483647, zf_lbit zland, zf_lst 10, zf_lld 4, zf_lld 10, zf_lmul, zf_lld 6, zf_lld 10, zf_lmul, zf_ic 31, zf_lsh zlshr, zf_ladd, zf_lst 12, zf_lld 6, zf_lld 8, zf_lmul, zf_lld 12, zf_lc 2147483647, zf_lbit zland, zf_ladd, zf_lst 14, zf_lld 4, zf_lld 8, zf_lmul, zf_lld 12, zf_ic 31, zf_lsh zlshr, zf_ladd, zf_lld 14, zf_ic 31, zf_lsh zlshr, zf_ladd, zf_retl], 74)]
theorem zT14_34 (h : Nat) : zTab h 14 34 16 (zt14_34 h) := zTab.mk (ret := (some .long)) (bl := xk14_34) (by decide +kernel) (by decide +kernel) rfl rfl
def zt14_35 (h : Nat) : ZB := [(0, [zf_ald 0, zf_ald 0, zf_ild 1, zf_inv h 14 21 1, zf_if .eq 22, zf_ild 2, zf_if .lt 22, zf_ild 2, zf_ic 4, zf_ic2 .ge 22, zf_ic 0, zf_go 23], 22),
  (22, [zf_ic 1], 23),
  (23, [zf_putI 14 0, zf_ald 0, zf_getI 14 0, zf_if .eq 35, zf_ic 0, zf_reti], 35),
  (35, [zf_ild 2, zf_ic 3, zf_ic2 .ge 53, zf_ald 0, zf_getR 14 20, zf_ic 3, zf_ild 1, zf_mul, zf_ild 2, zf_add, zf_aldI 100, zf_go 66], 53),
  (53, [zf_ald 0, zf_ild 1, zf_inv h 14 22 1, zf_if .eq 65, zf_ic 1, zf_go 66], 65),
  (65, [zf_ic 0], 66),
  (66, [zf_reti], 67)]
theorem zT14_35 (h : Nat) : zTab h 14 35 3 (zt14_35 h) := zTab.mk (ret := (some .int)) (bl := xk14_35) (by decide +kernel) (by decide +kernel) rfl rfl
