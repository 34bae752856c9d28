/-! TABLES of what methods of class 17 ask -/
def zt17_0 (h : Nat) : ZB := [(0, [zf_ic 0, zf_ist 4], 3),
  (3, [zf_ild 4, zf_ic 6, zf_ic2 .ge 79, zf_ald 0, zf_ild 2, zf_ild 4, zf_inv h 17 19 2, zf_ist 5, zf_ild 5, zf_ic (-1), zf_ic2 .eq 73, zf_ald 0, zf_getR 17 22, zf_ild 5, zf_aldL, zf_lc 0, zf_lcmp, zf_if .lt 73, zf_ald 0, zf_getR 17 22, zf_ild 5, zf_aldL, zf_ald 0, zf_ild 1, zf_ild 5, zf_ald 0, zf_ild 4, zf_inv h 17 24 1, zf_ild 2, zf_ild 3, zf_inv h 17 31 5, zf_ladd, zf_ald 0, zf_getR 17 22, zf_ild 2, zf_aldL, zf_lcmp, zf_if .ne 73, zf_ild 5, zf_reti], 73),
  (73, [zf_inc 4 1, zf_go 3], 79),
  (79, [zf_ic (-1), zf_reti], 81)]
theorem zT17_0 (h : Nat) : zTab h 17 0 6 (zt17_0 h) := zTab.mk (ret := (some .int)) (bl := xk17_0) (by decide +kernel) (by decide +kernel) rfl rfl
def zt17_1 (h : Nat) : ZB := [(0, [zf_ald 0, zf_ild 1, zf_ild 2, zf_ild 3, zf_inv h 17 4 3, zf_ist 4, zf_ald 0, zf_ild 4, zf_ic (-1), zf_ic2 .ne 20, zf_ic 1, zf_go 21], 20),
  (20, [zf_ic 0], 21),
  (21, [zf_putI 17 0, zf_ald 0, zf_getI 17 0, zf_if .ne 52, zf_ald 0, zf_getR 17 10, zf_ild 4, zf_aldB, zf_if .ne 52, zf_ald 0, zf_getR 17 8, zf_ild 4, zf_aldI 100, zf_ic (-1), zf_ic2 .eq 54], 52),
  (52, [zf_ic 0, zf_retz], 54),
  (54, [zf_ald 0, zf_getR 17 10, zf_ild 4, zf_ic 1, zf_astB, zf_ic 1, zf_retz], 64)]
theorem zT17_1 (h : Nat) : zTab h 17 1 5 (zt17_1 h) := zTab.mk (ret := (some .boolean)) (bl := xk17_1) (by decide +kernel) (by decide +kernel) rfl rfl
def zt17_2 (h : Nat) : ZB := [(0, [zf_ald 0, zf_ald 0, zf_ild 1, zf_inv h 17 13 1, zf_if .eq 13, zf_ic 0, zf_go 14], 13),
  (13, [zf_ic 1], 14),
  (14, [zf_putI 17 0, zf_ald 0, zf_getI 17 0, zf_if .eq 26, zf_ic 0, zf_reti], 26),
  (26, [zf_ild 2, zf_ist 3, zf_ic 0, zf_ist 4], 31),
  (31, [zf_ild 4, zf_ald 0, zf_getI 17 5, zf_ic2 .ge 77, zf_ild 2, zf_if .lt 77, zf_ald 0, zf_getR 17 20, zf_ild 1, zf_aldI 100, zf_ild 4, zf_bit zshr, zf_ic 1, zf_bit zand, zf_if .ne 61, zf_go 71], 61),
  (61, [zf_ild 3, zf_if .ne 68, zf_ild 4, zf_reti], 68),
  (68, [zf_inc 3 (-1)], 71),
  (71, [zf_inc 4 1, zf_go 31], 77),
  (77, [zf_ic (-1), zf_reti], 79)]
theorem zT17_2 (h : Nat) : zTab h 17 2 5 (zt17_2 h) := zTab.mk (ret := (some .int)) (bl := xk17_2) (by decide +kernel) (by decide +kernel) rfl rfl
def zt17_3 (h : Nat) : ZB := [(0, [zf_ild 2, zf_ic (-1), zf_ic2 .eq 14, zf_ald 0, zf_getR 17 10, zf_ild 2, zf_aldB, zf_if .eq 16], 14),
  (14, [zf_ic 0, zf_retz], 16),
  (16, [zf_ald 0, zf_getR 17 8, zf_ild 2, zf_aldI 100, zf_ic (-1), zf_ic2 .eq 40, zf_ald 0, zf_getR 17 8, zf_ild 2, zf_aldI 100, zf_ild 1, zf_ic2 .eq 40, zf_ic 1, zf_go 41], 40),
  (40, [zf_ic 0], 41),
  (41, [zf_ist 4, zf_ild 4, zf_if .eq 61, zf_ild 3, zf_if .eq 65, zf_ald 0, zf_getR 17 9, zf_ild 2, zf_aldB, zf_if .ne 65], 61),
  (61, [zf_ic 1, zf_go 66], 65),
  (65, [zf_ic 0], 66),
  (66, [zf_retz], 67)]
theorem zT17_3 (h : Nat) : zTab h 17 3 5 (zt17_3 h) := zTab.mk (ret := (some .boolean)) (bl := xk17_3) (by decide +kernel) (by decide +kernel) rfl rfl
def zt17_4 (h : Nat) : ZB := [(0, [zf_ild 1, zf_if .lt 40, zf_ild 1, zf_ald 0, zf_getI 17 3, zf_ic2 .ge 40, zf_ild 2, zf_if .lt 40, zf_ild 2, zf_ald 0, zf_getI 17 1, zf_ic2 .ge 40, zf_ild 3, zf_if .lt 40, zf_ild 3, zf_ald 0, zf_getI 17 2, zf_ic2 .ge 40, zf_ic 1, zf_go 41], 40),
  (40, [zf_ic 0], 41),
  (41, [zf_ist 4, zf_ild 4, zf_if .eq 66, zf_ild 1, zf_ald 0, zf_getI 17 2, zf_mul, zf_ild 3, zf_add, zf_ald 0, zf_getI 17 1, zf_mul, zf_ild 2, zf_add, zf_go 67], 66),
  (66, [zf_ic (-1)], 67),
  (67, [zf_reti], 68)]
theorem zT17_4 (h : Nat) : zTab h 17 4 5 (zt17_4 h) := zTab.mk (ret := (some .int)) (bl := xk17_4) (by decide +kernel) (by decide +kernel) rfl rfl
def zt17_5 (h : Nat) : ZB := [(0, [zf_ald 0, zf_getR 17 23, zf_ild 2, zf_ic 1, zf_astB, zf_ald 0, zf_getR 17 17, zf_ic 1024, zf_ild 1, zf_mul, zf_ald 0, zf_getR 17 16, zf_ild 1, zf_aldI 100, zf_add, zf_ild 2, zf_astI, zf_ald 0, zf_getR 17 16, zf_ild 1, zf_dup2, zf_aldI 100, zf_ic 1, zf_add, zf_astI, zf_ret], 36)]
theorem zT17_5 (h : Nat) : zTab h 17 5 3 (zt17_5 h) := zTab.mk (ret := none) (bl := xk17_5) (by decide +kernel) (by decide +kernel) rfl rfl
def zt17_6 (h : Nat) : ZB := [(0, [zf_ald 0, zf_ild 1, zf_if .lt 13, zf_ild 1, zf_ald 0, zf_getI 17 3, zf_ic2 .lt 17], 13),
  (13, [zf_ic 1, zf_go 44], 17),
  (17, [zf_ild 2, zf_inst h 17 12 1, zf_if .eq 43, zf_ild 3, zf_inst h 17 12 1, zf_if .eq 43, zf_ild 4, zf_inst h 17 12 1, zf_if .eq 43, zf_ic 0, zf_go 44], 43),
  (43, [zf_ic 2], 44),
  (44, [zf_putI 17 0, zf_ald 0, zf_getI 17 0, zf_if .eq 56, zf_ic 0, zf_retz], 56),
  (56, [zf_ald 0, zf_getR 17 12, zf_ild 1, zf_aldI 100, zf_ild 2, zf_ic2 .ne 87, zf_ald 0, zf_getR 17 13, zf_ild 1, zf_aldI 100, zf_ild 3, zf_ic2 .ne 87, zf_ald 0, zf_getR 17 14, zf_ild 1, zf_aldI 100, zf_ild 4, zf_ic2 .eq 91], 87),
  (87, [zf_ic 1, zf_go 92], 91),
  (91, [zf_ic 0], 92),
  (92, [zf_ist 5, zf_ald 0, zf_getR 17 12, zf_ild 1, zf_ild 2, zf_astI, zf_ald 0, zf_getR 17 13, zf_ild 1, zf_ild 3, zf_astI, zf_ald 0, zf_getR 17 14, zf_ild 1, zf_ild 4, zf_astI, zf_ild 5, zf_retz], 119)]
theorem zT17_6 (h : Nat) : zTab h 17 6 6 (zt17_6 h) := zTab.mk (ret := (some .boolean)) (bl := xk17_6) (by decide +kernel) (by decide +kernel) rfl rfl
def zt17_7 (h : Nat) : ZB := [(0, [zf_ald 0, zf_ald 0, zf_ild 1, zf_inv h 17 13 1, zf_if .eq 13, zf_ic 0, zf_go 14], 13),
  (13, [zf_ic 1], 14),
  (14, [zf_putI 17 0, zf_ald 0, zf_getI 17 0, zf_if .eq 28, zf_lc 0, zf_go 49], 28),
  (28, [zf_ald 0, zf_getR 17 15, zf_ild 1, zf_aldB, zf_if .eq 46, zf_ald 0, zf_getR 17 18, zf_ild 1, zf_aldL, zf_go 49], 46),
  (46, [zf_lc (-1)], 49),
  (49, [zf_retl], 50)]
theorem zT17_7 (h : Nat) : zTab h 17 7 2 (zt17_7 h) := zTab.mk (ret := (some .long)) (bl := xk17_7) (by decide +kernel) (by decide +kernel) rfl rfl
def zt17_8 (h : Nat) : ZB := [(0, [zf_ald 0, zf_ald 0, zf_getL 17 4, zf_lc 6364136223846793005, zf_lmul, zf_lc 1442695040888963407, zf_ladd, zf_putL 17 4, zf_ald 0, zf_getL 17 4, zf_ic 33, zf_lsh zlushr, zf_retl], 24)]
theorem zT17_8 (h : Nat) : zTab h 17 8 1 (zt17_8 h) := zTab.mk (ret := (some .long)) (bl := xk17_8) (by decide +kernel) (by decide +kernel) rfl rfl
def zt17_9 (h : Nat) : ZB := [(0, [zf_ald 0, zf_getI 17 1, zf_ald 0, zf_getI 17 2, zf_mul, zf_ald 0, zf_getI 17 3, zf_mul, zf_ist 2, zf_ald 0, zf_getR 17 20, zf_ild 1, zf_ic 0, zf_astI, zf_ic 0, zf_ist 3], 24),
  (24, [zf_ild 3, zf_ild 2, zf_ic2 .ge 121, zf_ic 0, zf_ist 4], 32),
  (32, [zf_ild 4, zf_ic 6, zf_ic2 .ge 115, zf_ald 0, zf_getR 17 22, zf_ild 3, zf_aldL, zf_lc 0, zf_lcmp, zf_if .lt 115, zf_ald 0, zf_ild 3, zf_ild 4, zf_inv h 17 19 2, zf_ist 5, zf_ild 5, zf_ic (-1), zf_ic2 .eq 109, zf_ald 0, zf_getR 17 8, zf_ild 5, zf_aldI 100, zf_ic (-1), zf_ic2 .eq 109, zf_ald 0, zf_getR 17 8, zf_ild 5, zf_aldI 100, zf_ild 1, zf_ic2 .eq 109, zf_ald 0, zf_getR 17 20, zf_ild 1, zf_ald 0, zf_getR 17 20, zf_ild 1, zf_aldI 100, zf_ic 1, zf_ald 0, zf_getR 17 8, zf_ild 5, zf_aldI 100, zf_bit zshl, zf_bit zor, zf_astI], 109),
  (109, [zf_inc 4 1, zf_go 32], 115),
  (115, [zf_inc 3 1, zf_go 24], 121),
  (121, [zf_ret], 122)]
theorem zT17_9 (h : Nat) : zTab h 17 9 6 (zt17_9 h) := zTab.mk (ret := none) (bl := xk17_9) (by decide +kernel) (by decide +kernel) rfl rfl
def zt17_10 (h : Nat) : ZB := [(0, [zf_ic 1, zf_ist 2, zf_ic 5, zf_ild 1, zf_mul, zf_ist 3], 6),
  (6, [zf_ild 3, zf_ic 5, zf_ild 1, zf_mul, zf_ald 0, zf_getR 17 6, zf_ild 1, zf_aldI 100, zf_add, zf_ic2 .ge 50, zf_ild 2, zf_if .eq 42, zf_ald 0, zf_getR 17 23, zf_ald 0, zf_getR 17 7, zf_ild 3, zf_aldI 100, zf_aldB, zf_if .eq 42, zf_ic 1, zf_go 43], 42),
  (42, [zf_ic 0], 43),
  (43, [zf_ist 2, zf_inc 3 1, zf_go 6], 50),
  (50, [zf_ild 2, zf_retz], 52)]
theorem zT17_10 (h : Nat) : zTab h 17 10 4 (zt17_10 h) := zTab.mk (ret := (some .boolean)) (bl := xk17_10) (by decide +kernel) (by decide +kernel) rfl rfl
def zt17_11 (h : Nat) : ZB := [(0, [zf_ald 0, zf_ini, zf_ald 0, zf_ic 12, zf_newA 100, zf_putR 17 6, zf_ald 0, zf_ic 60, zf_newA 100, zf_putR 17 7, zf_ald 0, zf_ic 1024, zf_newA 100, zf_putR 17 8, zf_ald 0, zf_ic 1024, zf_newA 103, zf_putR 17 9, zf_ald 0, zf_ic 1024, zf_newA 103, zf_putR 17 10, zf_ald 0, zf_ic 1024, zf_newA 101, zf_putR 17 11, zf_ald 0, zf_ic 4, zf_newA 100, zf_putR 17 12, zf_ald 0, zf_ic 4, zf_newA 100, zf_putR 17 13, zf_ald 0, zf_ic 4, zf_newA 100, zf_putR 17 14, zf_ald 0, zf_ic 12, zf_newA 103, zf_putR 17 15, zf_ald 0, zf_ic 12, zf_newA 100, zf_putR 17 16, zf_ald 0, zf_ic 12288, zf_newA 100, zf_putR 17 17, zf_ald 0, zf_ic 12, zf_newA 101, zf_putR 17 18, zf_ald 0, zf_ic 12, zf_newA 100, zf_putR 17 19, zf_ald 0, zf_ic 12, zf_newA 100, zf_putR 17 20, zf_ald 0, zf_ic 1024, zf_newA 101, zf_putR 17 22, zf_ald 0, zf_ic 1024, zf_newA 103, zf_putR 17 23, zf_ald 0, zf_ic 12, zf_newA 100, zf_putR 17 24, zf_ald 0, zf_ild 1, zf_ic 1, zf_ic2 .ge 162, zf_ic 1, zf_go 174], 162),
  (162, [zf_ild 1, zf_ic 16, zf_ic2 .le 173, zf_ic 16, zf_go 174], 173),
  (173, [zf_ild 1], 174),
  (174, [zf_putI 17 1, zf_ald 0, zf_ild 2, zf_ic 1, zf_ic2 .ge 187, zf_ic 1, zf_go 199], 187),
  (187, [zf_ild 2, zf_ic 16, zf_ic2 .le 198, zf_ic 16, zf_go 199], 198),
  (198, [zf_ild 2], 199),
  (199, [zf_putI 17 2, zf_ald 0, zf_ild 3, zf_ic 1, zf_ic2 .ge 212, zf_ic 1, zf_go 222], 212),
  (212, [zf_ild 3, zf_ic 4, zf_ic2 .le 221, zf_ic 4, zf_go 222], 221),
  (221, [zf_ild 3], 222),
  (222, [zf_putI 17 3, zf_ald 0, zf_lld 4, zf_putL 17 4, zf_ic 0, zf_ist 6], 234),
  (234, [zf_ild 6, zf_ic 1024, zf_ic2 .ge 256, zf_ald 0, zf_getR 17 8, zf_ild 6, zf_ic (-1), zf_astI, zf_inc 6 1, zf_go 234], 256),
  (256, [zf_ret], 257)]
theorem zT17_11 (h : Nat) : zTab h 17 11 7 (zt17_11 h) := zTab.mk (ret := none) (bl := xk17_11) (by decide +kernel) (by decide +kernel) rfl rfl
def zt17_12 (h : Nat) : ZB := [(0, [zf_ild 0, zf_if .lt 14, zf_ild 0, zf_ic 50, zf_ic2 .gt 14, zf_ic 1, zf_go 15], 14),
  (14, [zf_ic 0], 15),
  (15, [zf_retz], 16)]
theorem zT17_12 (h : Nat) : zTab h 17 12 1 (zt17_12 h) := zTab.mk (ret := (some .boolean)) (bl := xk17_12) (by decide +kernel) (by decide +kernel) rfl rfl
def zt17_13 (h : Nat) : ZB := [(0, [zf_ild 1, zf_if .lt 16, zf_ild 1, zf_ald 0, zf_getI 17 5, zf_ic2 .ge 16, zf_ic 1, zf_go 17], 16),
  (16, [zf_ic 0], 17),
  (17, [zf_retz], 18)]
theorem zT17_13 (h : Nat) : zTab h 17 13 2 (zt17_13 h) := zTab.mk (ret := (some .boolean)) (bl := xk17_13) (by decide +kernel) (by decide +kernel) rfl rfl
def zt17_14 (h : Nat) : ZB := [(0, [zf_ald 0, zf_getR 17 6, zf_ild 1, zf_aldI 100, zf_if .le 22, zf_ald 0, zf_getR 17 15, zf_ild 1, zf_aldB, zf_if .ne 22, zf_ic 1, zf_go 23], 22),
  (22, [zf_ic 0], 23),
  (23, [zf_retz], 24)]
theorem zT17_14 (h : Nat) : zTab h 17 14 2 (zt17_14 h) := zTab.mk (ret := (some .boolean)) (bl := xk17_14) (by decide +kernel) (by decide +kernel) rfl rfl
def zt17_15 (h : Nat) : ZB := [(0, [zf_ald 0, zf_getR 17 18, zf_ild 1, zf_dup2, zf_aldL, zf_ald 0, zf_getR 17 22, zf_ild 2, zf_aldL, zf_ladd, zf_astL, zf_ald 0, zf_getR 17 16, zf_ild 1, zf_aldI 100, zf_ist 4, zf_ild 2, zf_ist 5], 26),
  (26, [zf_ald 0, zf_getR 17 23, zf_ild 5, zf_aldB, zf_if .ne 60, zf_ald 0, zf_ild 1, zf_ild 5, zf_ild 3, zf_inv h 17 0 3, zf_ist 6, zf_ald 0, zf_ild 1, zf_ild 5, zf_inv h 17 5 2, zf_ild 6, zf_ist 5, zf_go 26], 60),
  (60, [zf_ic 0, zf_ist 6, zf_ild 4, zf_ist 7], 67),
  (67, [zf_ild 7, zf_ald 0, zf_getR 17 16, zf_ild 1, zf_aldI 100, zf_ic2 .ge 149, zf_ald 0, zf_getR 17 17, zf_ic 1024, zf_ild 1, zf_mul, zf_ild 7, zf_add, zf_aldI 100, zf_ist 8, zf_ald 0, zf_getR 17 8, zf_ild 8, zf_aldI 100, zf_ic (-1), zf_ic2 .eq 143, zf_ald 0, zf_getR 17 8, zf_ild 8, zf_aldI 100, zf_ild 1, zf_ic2 .ne 118, zf_go 143], 118),
  (118, [zf_ild 6, zf_ic 1, zf_ald 0, zf_getR 17 8, zf_ild 8, zf_aldI 100, zf_bit zshl, zf_bit zor, zf_ist 6, zf_ald 0, zf_getR 17 11, zf_ild 8, zf_dup2, zf_aldL, zf_lc 1, zf_ladd, zf_astL], 143),
  (143, [zf_inc 7 1, zf_go 67], 149),
  (149, [zf_ic 0, zf_ist 7], 152),
  (152, [zf_ild 7, zf_ald 0, zf_getI 17 5, zf_ic2 .ge 197, zf_ild 6, zf_ild 7, zf_bit zshr, zf_ic 1, zf_bit zand, zf_if .ne 174, zf_go 191], 174),
  (174, [zf_ald 0, zf_ild 7, zf_inv h 17 18 1, zf_ald 0, zf_getR 17 19, zf_ild 7, zf_dup2, zf_aldI 100, zf_ic 1, zf_add, zf_astI], 191),
  (191, [zf_inc 7 1, zf_go 152], 197),
  (197, [zf_ild 4, zf_ist 7], 201),
  (201, [zf_ild 7, zf_ald 0, zf_getR 17 16, zf_ild 1, zf_aldI 100, zf_ic2 .ge 237, zf_ald 0, zf_getR 17 8, zf_ald 0, zf_getR 17 17, zf_ic 1024, zf_ild 1, zf_mul, zf_ild 7, zf_add, zf_aldI 100, zf_ild 1, zf_astI, zf_inc 7 1, zf_go 201], 237),
  (237, [zf_ret], 238)]
theorem zT17_15 (h : Nat) : zTab h 17 15 9 (zt17_15 h) := zTab.mk (ret := none) (bl := xk17_15) (by decide +kernel) (by decide +kernel) rfl rfl
def zt17_16 (h : Nat) : ZB := [(0, [zf_ild 1, zf_ald 0, zf_getI 17 1, zf_ald 0, zf_getI 17 2, zf_mul, zf_div, zf_reti], 12)]
theorem zT17_16 (h : Nat) : zTab h 17 16 2 (zt17_16 h) := zTab.mk (ret := (some .int)) (bl := xk17_16) (by decide +kernel) (by decide +kernel) rfl rfl
def zt17_17 (h : Nat) : ZB := [(0, [zf_ald 0, zf_getR 17 20, zf_ild 1, zf_ic 0, zf_astI, zf_ald 0, zf_getR 17 18, zf_ild 1, zf_lc 0, zf_astL, zf_ald 0, zf_getR 17 16, zf_ild 1, zf_ic 0, zf_astI, zf_ic 0, zf_ist 2], 23),
  (23, [zf_ild 2, zf_ic 1024, zf_ic2 .ge 43, zf_ald 0, zf_getR 17 23, zf_ild 2, zf_ic 0, zf_astB, zf_inc 2 1, zf_go 23], 43),
  (43, [zf_ald 0, zf_ild 1, zf_ald 0, zf_getR 17 7, zf_ic 5, zf_ild 1, zf_mul, zf_aldI 100, zf_inv h 17 5 2], 56),
  (56, [zf_ald 0, zf_ild 1, zf_inv h 17 10 1, zf_if .ne 136, zf_ald 0, zf_ild 1, zf_ic 0, zf_inv h 17 30 2, zf_ald 0, zf_ild 1, zf_inv h 17 21 1, zf_ist 2, zf_ild 2, zf_ic (-1), zf_ic2 .ne 85, zf_ic 1, zf_go 86], 85),
  (85, [zf_ic 0], 86),
  (86, [zf_ist 3, zf_ild 3, zf_if .eq 126, zf_ald 0, zf_ild 1, zf_inv h 17 9 1, zf_ald 0, zf_ild 1, zf_ic 1, zf_inv h 17 30 2, zf_ald 0, zf_ild 1, zf_inv h 17 21 1, zf_ist 2, zf_ild 2, zf_ic (-1), zf_ic2 .ne 119, zf_ald 0, zf_ild 1, zf_inv h 17 18 1, zf_ret], 119),
  (119, [zf_ald 0, zf_getR 17 20, zf_ild 1, zf_ic 0, zf_astI], 126),
  (126, [zf_ald 0, zf_ild 1, zf_ild 2, zf_ild 3, zf_inv h 17 15 3, zf_go 56], 136),
  (136, [zf_ald 0, zf_getR 17 15, zf_ild 1, zf_ic 1, zf_astB, zf_ret], 144)]
theorem zT17_17 (h : Nat) : zTab h 17 17 4 (zt17_17 h) := zTab.mk (ret := none) (bl := xk17_17) (by decide +kernel) (by decide +kernel) rfl rfl
def zt17_18 (h : Nat) : ZB := [(0, [zf_ic 0, zf_ist 2], 2),
  (2, [zf_ild 2, zf_ic 1024, zf_ic2 .ge 50, zf_ald 0, zf_getR 17 8, zf_ild 2, zf_ald 0, zf_getR 17 8, zf_ild 2, zf_aldI 100, zf_ild 1, zf_ic2 .ne 37, zf_ald 0, zf_getR 17 9, zf_ild 2, zf_aldB, zf_if .ne 37, zf_ic (-1), zf_go 43], 37),
  (37, [zf_ald 0, zf_getR 17 8, zf_ild 2, zf_aldI 100], 43),
  (43, [zf_astI, zf_inc 2 1, zf_go 2], 50),
  (50, [zf_ald 0, zf_getR 17 15, zf_ild 1, zf_ic 0, zf_astB, zf_ald 0, zf_getR 17 16, zf_ild 1, zf_ic 0, zf_astI, zf_ret], 65)]
theorem zT17_18 (h : Nat) : zTab h 17 18 3 (zt17_18 h) := zTab.mk (ret := none) (bl := xk17_18) (by decide +kernel) (by decide +kernel) rfl rfl
def zt17_19 (h : Nat) : ZB := [(0, [zf_ald 0, zf_ild 1, zf_inv h 17 16 1, zf_ist 3, zf_ild 1, zf_ald 0, zf_getI 17 1, zf_rem, zf_ist 4, zf_ald 0, zf_ild 1, zf_inv h 17 28 1, zf_ist 5, zf_ild 2, zf_sw 116 0 4 [56, 68, 80, 92, 104]], 56),
  (56, [zf_ald 0, zf_ild 3, zf_ic 1, zf_sub, zf_ild 4, zf_ild 5, zf_inv h 17 4 3, zf_reti], 68),
  (68, [zf_ald 0, zf_ild 3, zf_ild 4, zf_ild 5, zf_ic 1, zf_sub, zf_inv h 17 4 3, zf_reti], 80),
  (80, [zf_ald 0, zf_ild 3, zf_ild 4, zf_ic 1, zf_sub, zf_ild 5, zf_inv h 17 4 3, zf_reti], 92),
  (92, [zf_ald 0, zf_ild 3, zf_ild 4, zf_ic 1, zf_add, zf_ild 5, zf_inv h 17 4 3, zf_reti], 104),
  (104, [zf_ald 0, zf_ild 3, zf_ild 4, zf_ild 5, zf_ic 1, zf_add, zf_inv h 17 4 3, zf_reti], 116),
  (116, [zf_ald 0, zf_ild 3, zf_ic 1, zf_add, zf_ild 4, zf_ild 5, zf_inv h 17 4 3, zf_reti], 128)]
theorem zT17_19 (h : Nat) : zTab h 17 19 6 (zt17_19 h) := zTab.mk (ret := (some .int)) (bl := xk17_19) (by decide +kernel) (by decide +kernel) rfl rfl
def zt17_20 (h : Nat) : ZB := [(0, [zf_ald 0, zf_ic 0, zf_putI 17 0, zf_ald 0, zf_getI 17 5, zf_ic 12, zf_ic2 .ne 16, zf_ic (-1), zf_reti], 16),
  (16, [zf_ald 0, zf_dup, zf_getI 17 5, zf_ic 1, zf_add, zf_putI 17 5, zf_ald 0, zf_getI 17 5, zf_ic 1, zf_sub, zf_reti], 33)]
theorem zT17_20 (h : Nat) : zTab h 17 20 1 (zt17_20 h) := zTab.mk (ret := (some .int)) (bl := xk17_20) (by decide +kernel) (by decide +kernel) rfl rfl
def zt17_21 (h : Nat) : ZB := [(0, [zf_ic (-1), zf_ist 2, zf_ic 5, zf_ild 1, zf_mul, zf_ist 3], 6),
  (6, [zf_ild 3, zf_ic 5, zf_ild 1, zf_mul, zf_ald 0, zf_getR 17 6, zf_ild 1, zf_aldI 100, zf_add, zf_ic2 .ge 88, zf_ald 0, zf_getR 17 7, zf_ild 3, zf_aldI 100, zf_ist 4, zf_ald 0, zf_getR 17 23, zf_ild 4, zf_aldB, zf_if .ne 82, zf_ald 0, zf_getR 17 22, zf_ild 4, zf_aldL, zf_lc 0, zf_lcmp, zf_if .ge 53, zf_go 82], 53),
  (53, [zf_ild 2, zf_ic (-1), zf_ic2 .eq 75, zf_ald 0, zf_getR 17 22, zf_ild 4, zf_aldL, zf_ald 0, zf_getR 17 22, zf_ild 2, zf_aldL, zf_lcmp, zf_if .ge 80], 75),
  (75, [zf_ild 4, zf_go 81], 80),
  (80, [zf_ild 2], 81),
  (81, [zf_ist 2], 82),
  (82, [zf_inc 3 1, zf_go 6], 88),
  (88, [zf_ild 2, zf_reti], 90)]
theorem zT17_21 (h : Nat) : zTab h 17 21 5 (zt17_21 h) := zTab.mk (ret := (some .int)) (bl := xk17_21) (by decide +kernel) (by decide +kernel) rfl rfl
def zt17_22 (h : Nat) : ZB := [(0, [zf_ald 0, zf_ic 0, zf_putI 17 0, zf_ild 1, zf_ist 2, zf_ic 0, zf_ist 3], 9),
  (9, [zf_ild 3, zf_ald 0, zf_getI 17 5, zf_ic2 .ge 47, zf_ild 1, zf_if .lt 47, zf_ald 0, zf_ild 3, zf_inv h 17 14 1, zf_if .ne 32, zf_go 41], 32),
  (32, [zf_ild 2, zf_if .ne 38, zf_ild 3, zf_reti], 38),
  (38, [zf_inc 2 (-1)], 41),
  (41, [zf_inc 3 1, zf_go 9], 47),
  (47, [zf_ic (-1), zf_reti], 49)]
theorem zT17_22 (h : Nat) : zTab h 17 22 4 (zt17_22 h) := zTab.mk (ret := (some .int)) (bl := xk17_22) (by decide +kernel) (by decide +kernel) rfl rfl
def zt17_23 (h : Nat) : ZB := [(0, [zf_ic 0, zf_ist 1, zf_ic 0, zf_ist 2], 4),
  (4, [zf_ild 2, zf_ald 0, zf_getI 17 5, zf_ic2 .ge 34, zf_ild 1, zf_ald 0, zf_ild 2, zf_inv h 17 14 1, zf_if .eq 25, zf_ic 1, zf_go 26], 25),
  (25, [zf_ic 0], 26),
  (26, [zf_add, zf_ist 1, zf_inc 2 1, zf_go 4], 34),
  (34, [zf_ild 1, zf_reti], 36)]
theorem zT17_23 (h : Nat) : zTab h 17 23 3 (zt17_23 h) := zTab.mk (ret := (some .int)) (bl := xk17_23) (by decide +kernel) (by decide +kernel) rfl rfl
def zt17_24 (h : Nat) : ZB := [(0, [zf_ic 5, zf_ild 1, zf_sub, zf_reti], 4)]
theorem zT17_24 (h : Nat) : zTab h 17 24 2 (zt17_24 h) := zTab.mk (ret := (some .int)) (bl := xk17_24) (by decide +kernel) (by decide +kernel) rfl rfl
def zt17_25 (h : Nat) : ZB := [(0, [zf_ald 0, zf_ild 1, zf_inv h 17 13 1, zf_if .eq 44, zf_ald 0, zf_getR 17 15, zf_ild 1, zf_aldB, zf_if .eq 44, zf_ild 2, zf_if .lt 44, zf_ild 2, zf_ald 0, zf_getR 17 16, zf_ild 1, zf_aldI 100, zf_ic2 .ge 44, zf_ild 3, zf_if .lt 44, zf_ild 3, zf_ic 3, zf_ic2 .ge 44, zf_ic 1, zf_go 45], 44),
  (44, [zf_ic 0], 45),
  (45, [zf_ist 4, zf_ald 0, zf_ild 4, zf_if .eq 57, zf_ic 0, zf_go 58], 57),
  (57, [zf_ic 1], 58),
  (58, [zf_putI 17 0, zf_ald 0, zf_getI 17 0, zf_if .eq 70, zf_ic 0, zf_reti], 70),
  (70, [zf_ald 0, zf_getR 17 17, zf_ic 1024, zf_ild 1, zf_mul, zf_ild 2, zf_add, zf_aldI 100, zf_ist 5, zf_ild 3, zf_if .ne 97, zf_ald 0, zf_ild 5, zf_inv h 17 16 1, zf_go 118], 97),
  (97, [zf_ild 3, zf_ic 1, zf_ic2 .ne 112, zf_ild 5, zf_ald 0, zf_getI 17 1, zf_rem, zf_go 118], 112),
  (112, [zf_ald 0, zf_ild 5, zf_inv h 17 28 1], 118),
  (118, [zf_reti], 119)]
theorem zT17_25 (h : Nat) : zTab h 17 25 6 (zt17_25 h) := zTab.mk (ret := (some .int)) (bl := xk17_25) (by decide +kernel) (by decide +kernel) rfl rfl
def zt17_26 (h : Nat) : ZB := [(0, [zf_ald 0, zf_ild 2, zf_ild 3, zf_ild 4, zf_inv h 17 4 3, zf_ist 5, zf_ald 0, zf_ald 0, zf_ild 1, zf_inv h 17 13 1, zf_if .eq 29, zf_ild 5, zf_ic (-1), zf_ic2 .eq 29, zf_ic 0, zf_go 30], 29),
  (29, [zf_ic 1], 30),
  (30, [zf_putI 17 0, zf_ald 0, zf_getI 17 0, zf_if .eq 42, zf_ic 0, zf_retz], 42),
  (42, [zf_ald 0, zf_getR 17 9, zf_ild 5, zf_aldB, zf_if .eq 67, zf_ald 0, zf_getR 17 8, zf_ild 5, zf_aldI 100, zf_ild 1, zf_ic2 .ne 67, zf_ic 1, zf_go 68], 67),
  (67, [zf_ic 0], 68),
  (68, [zf_ist 6, zf_ald 0, zf_getR 17 10, zf_ild 5, zf_aldB, zf_if .ne 117, zf_ild 6, zf_if .ne 117, zf_ald 0, zf_getR 17 8, zf_ild 5, zf_aldI 100, zf_ic (-1), zf_ic2 .eq 107, zf_ald 0, zf_getR 17 8, zf_ild 5, zf_aldI 100, zf_ild 1, zf_ic2 .ne 117], 107),
  (107, [zf_ald 0, zf_getR 17 6, zf_ild 1, zf_aldI 100, zf_ic 5, zf_ic2 .ne 119], 117),
  (117, [zf_ic 0, zf_retz], 119),
  (119, [zf_ald 0, zf_ild 1, zf_inv h 17 18 1, zf_ald 0, zf_getR 17 7, zf_ic 5, zf_ild 1, zf_mul, zf_ald 0, zf_getR 17 6, zf_ild 1, zf_aldI 100, zf_add, zf_ild 5, zf_astI, zf_ald 0, zf_getR 17 6, zf_ild 1, zf_dup2, zf_aldI 100, zf_ic 1, zf_add, zf_astI, zf_ald 0, zf_getR 17 8, zf_ild 5, zf_ild 1, zf_astI, zf_ald 0, zf_getR 17 9, zf_ild 5, zf_ic 1, zf_astB, zf_ic 1, zf_retz], 169)]
theorem zT17_26 (h : Nat) : zTab h 17 26 7 (zt17_26 h) := zTab.mk (ret := (some .boolean)) (bl := xk17_26) (by decide +kernel) (by decide +kernel) rfl rfl
def zt17_27 (h : Nat) : ZB := [(0, [zf_ald 0, zf_ald 0, zf_ild 1, zf_inv h 17 13 1, zf_if .eq 13, zf_ic 0, zf_go 14], 13),
  (13, [zf_ic 1], 14),
  (14, [zf_putI 17 0, zf_ald 0, zf_getI 17 0, zf_if .ne 33, zf_ald 0, zf_getR 17 19, zf_ild 1, zf_aldI 100, zf_go 34], 33),
  (33, [zf_ic 0], 34),
  (34, [zf_reti], 35)]
theorem zT17_27 (h : Nat) : zTab h 17 27 2 (zt17_27 h) := zTab.mk (ret := (some .int)) (bl := xk17_27) (by decide +kernel) (by decide +kernel) rfl rfl
def zt17_28 (h : Nat) : ZB := [(0, [zf_ild 1, zf_ald 0, zf_getI 17 1, zf_div, zf_ald 0, zf_getI 17 2, zf_rem, zf_reti], 12)]
theorem zT17_28 (h : Nat) : zTab h 17 28 2 (zt17_28 h) := zTab.mk (ret := (some .int)) (bl := xk17_28) (by decide +kernel) (by decide +kernel) rfl rfl
def zt17_29 (h : Nat) : ZB := [(0, [zf_ald 0, zf_ild 1, zf_ic 1, zf_ic2 .lt 16, zf_ild 1, zf_ic 20, zf_ic2 .gt 16, zf_ic 0, zf_go 17], 16),
  (16, [zf_ic 1], 17),
  (17, [zf_putI 17 0, zf_ald 0, zf_getI 17 0, zf_if .eq 29, zf_ic 0, zf_reti], 29),
  (29, [zf_ic 0, zf_ist 2], 31),
  (31, [zf_ild 2, zf_ild 1, zf_ic2 .ge 53, zf_ald 0, zf_inv h 17 23 0, zf_if .le 53, zf_ald 0, zf_inv h 17 33 0, zf_inc 2 1, zf_go 31], 53),
  (53, [zf_ald 0, zf_inv h 17 23 0, zf_reti], 58)]
theorem zT17_29 (h : Nat) : zTab h 17 29 3 (zt17_29 h) := zTab.mk (ret := (some .int)) (bl := xk17_29) (by decide +kernel) (by decide +kernel) rfl rfl
def zt17_30 (h : Nat) : ZB := [(0, [zf_ald 0, zf_getI 17 1, zf_ald 0, zf_getI 17 2, zf_mul, zf_ald 0, zf_getI 17 3, zf_mul, zf_ist 3, zf_ic 0, zf_ist 4], 18),
  (18, [zf_ild 4, zf_ild 3, zf_ic2 .ge 54, zf_ald 0, zf_getR 17 22, zf_ild 4, zf_ald 0, zf_getR 17 23, zf_ild 4, zf_aldB, zf_if .eq 44, zf_lc 0, zf_go 47], 44),
  (44, [zf_lc (-1)], 47),
  (47, [zf_astL, zf_inc 4 1, zf_go 18], 54),
  (54, [zf_ic 1, zf_ist 4], 57),
  (57, [zf_ild 4, zf_if .eq 197, zf_ic 0, zf_ist 4, zf_ic 0, zf_ist 5], 68),
  (68, [zf_ild 5, zf_ild 3, zf_ic2 .ge 194, zf_ic 0, zf_ist 6], 77),
  (77, [zf_ild 6, zf_ic 6, zf_ic2 .ge 188, zf_ald 0, zf_getR 17 22, zf_ild 5, zf_aldL, zf_lc 0, zf_lcmp, zf_if .lt 188, zf_ald 0, zf_ild 5, zf_ild 6, zf_inv h 17 19 2, zf_ist 7, zf_ald 0, zf_ild 1, zf_ild 7, zf_ild 2, zf_inv h 17 3 3, zf_if .ne 120, zf_go 182], 120),
  (120, [zf_ald 0, zf_getR 17 22, zf_ild 5, zf_aldL, zf_ald 0, zf_ild 1, zf_ild 5, zf_ild 6, zf_ild 7, zf_ild 2, zf_inv h 17 31 5, zf_ladd, zf_lst 8, zf_ald 0, zf_getR 17 22, zf_ild 7, zf_aldL, zf_lc 0, zf_lcmp, zf_if .lt 170, zf_ald 0, zf_getR 17 22, zf_ild 7, zf_aldL, zf_lld 8, zf_lcmp, zf_if .gt 170, zf_go 182], 170),
  (170, [zf_ald 0, zf_getR 17 22, zf_ild 7, zf_lld 8, zf_astL, zf_ic 1, zf_ist 4], 182),
  (182, [zf_inc 6 1, zf_go 77], 188),
  (188, [zf_inc 5 1, zf_go 68], 194),
  (194, [zf_go 57], 197),
  (197, [zf_ret], 198)]
theorem zT17_30 (h : Nat) : zTab h 17 30 10 (zt17_30 h) := zTab.mk (ret := none) (bl := xk17_30) (by decide +kernel) (by decide +kernel) rfl rfl
def zt17_31 (h : Nat) : ZB := [(0, [zf_ald 0, zf_ild 4, zf_inv h 17 16 1, zf_ist 6, zf_lc 2, zf_lst 7, zf_ild 3, zf_if .eq 22, zf_ild 3, zf_ic 5, zf_ic2 .ne 50], 22),
  (22, [zf_lld 7, zf_ald 0, zf_getR 17 13, zf_ild 3, zf_if .ne 37, zf_ild 6, zf_go 42], 37),
  (37, [zf_ald 0, zf_ild 2, zf_inv h 17 16 1], 42),
  (42, [zf_aldI 100, zf_i2l, zf_ladd, zf_lst 7, zf_go 101], 50),
  (50, [zf_ild 3, zf_ic 1, zf_ic2 .eq 60, zf_ild 3, zf_ic 4, zf_ic2 .ne 64], 60),
  (60, [zf_ic 1, zf_go 65], 64),
  (64, [zf_ic 0], 65),
  (65, [zf_ist 9, zf_lld 7, zf_ild 9, zf_ild 6, zf_ic 2, zf_rem, zf_if .ne 82, zf_ic 1, zf_go 83], 82),
  (82, [zf_ic 0], 83),
  (83, [zf_ic2 .ne 97, zf_ald 0, zf_getR 17 12, zf_ild 6, zf_aldI 100, zf_i2l, zf_go 98], 97),
  (97, [zf_lc 0], 98),
  (98, [zf_ladd, zf_lst 7], 101),
  (101, [zf_ic 1, zf_ist 9], 104),
  (104, [zf_ild 9, zf_ic 5, zf_ic2 .ge 171, zf_ald 0, zf_ild 4, zf_ild 9, zf_inv h 17 19 2, zf_ist 10, zf_lld 7, zf_ild 10, zf_ic (-1), zf_ic2 .eq 161, zf_ald 0, zf_getR 17 8, zf_ild 10, zf_aldI 100, zf_ic (-1), zf_ic2 .eq 161, zf_ald 0, zf_getR 17 8, zf_ild 10, zf_aldI 100, zf_ild 1, zf_ic2 .eq 161, zf_ald 0, zf_getR 17 14, zf_ild 6, zf_aldI 100, zf_i2l, zf_go 162], 161),
  (161, [zf_lc 0], 162),
  (162, [zf_ladd, zf_lst 7, zf_inc 9 1, zf_go 104], 171),
  (171, [zf_lld 7, zf_ald 0, zf_getR 17 11, zf_ild 4, zf_aldL, zf_ladd, zf_ild 5, zf_if .eq 214, zf_ald 0, zf_getR 17 8, zf_ild 4, zf_aldI 100, zf_ic (-1), zf_ic2 .eq 214, zf_ald 0, zf_getR 17 8, zf_ild 4, zf_aldI 100, zf_ild 1, zf_ic2 .eq 214, zf_lc 100, zf_go 215], 214),
  (214, [zf_lc 0], 215),
  (215, [zf_ladd, zf_retl], 217)]
theorem zT17_31 (h : Nat) : zTab h 17 31 11 (zt17_31 h) := zTab.mk (ret := (some .long)) (bl := xk17_31) (by decide +kernel) (by decide +kernel) rfl rfl
def zt17_32 (h : Nat) : ZB := [(0, [zf_ald 0, zf_getI 17 0, zf_reti], 5)]
theorem zT17_32 (h : Nat) : zTab h 17 32 1 (zt17_32 h) := zTab.mk (ret := (some .int)) (bl := xk17_32) (by decide +kernel) (by decide +kernel) rfl rfl
def zt17_33 (h : Nat) : ZB := [(0, [zf_ic 0, zf_ist 1, zf_ic 0, zf_ist 2], 4),
  (4, [zf_ild 2, zf_ald 0, zf_getI 17 5, zf_ic2 .ge 39, zf_ald 0, zf_ild 2, zf_inv h 17 14 1, zf_if .ne 23, zf_go 33], 23),
  (23, [zf_ald 0, zf_getR 17 24, zf_ild 1, zf_ild 2, zf_astI, zf_inc 1 1], 33),
  (33, [zf_inc 2 1, zf_go 4], 39),
  (39, [zf_ild 1, zf_ic 1, zf_sub, zf_ist 2], 43),
  (43, [zf_ild 2, zf_if .le 92, zf_ald 0, zf_inv h 17 8 0, zf_ild 2, zf_ic 1, zf_add, zf_i2l, zf_lrem, zf_l2i, zf_ist 3, zf_ald 0, zf_getR 17 24, zf_ild 2, zf_aldI 100, zf_ist 4, zf_ald 0, zf_getR 17 24, zf_ild 2, zf_ald 0, zf_getR 17 24, zf_ild 3, zf_aldI 100, zf_astI, zf_ald 0, zf_getR 17 24, zf_ild 3, zf_ild 4, zf_astI, zf_inc 2 (-1), zf_go 43], 92),
  (92, [zf_ic 0, zf_ist 2], 94),
  (94, [zf_ild 2, zf_ild 1, zf_ic2 .ge 128, zf_ald 0, zf_ald 0, zf_getR 17 24, zf_ild 2, zf_aldI 100, zf_inv h 17 14 1, zf_if .eq 122, zf_ald 0, zf_ald 0, zf_getR 17 24, zf_ild 2, zf_aldI 100, zf_inv h 17 17 1], 122),
  (122, [zf_inc 2 1, zf_go 94], 128),
  (128, [zf_ald 0, zf_dup, zf_getI 17 21, zf_ic 1, zf_add, zf_putI 17 21, zf_ret], 139)]
theorem zT17_33 (h : Nat) : zTab h 17 33 5 (zt17_33 h) := zTab.mk (ret := none) (bl := xk17_33) (by decide +kernel) (by decide +kernel) rfl rfl
