/-! TABLES of what methods of class 6 ask -/
def zt6_0 (h : Nat) : ZB := [(0, [zf_ic 0, zf_ist 2], 2),
  (2, [zf_ild 2, zf_ic 6, zf_ic2 .ge 75, zf_ald 0, zf_getR 6 0, zf_ild 1, zf_ild 2, zf_inv h 0 16 2, zf_ist 3, zf_ild 3, zf_ic (-1), zf_ic2 .eq 69, zf_ald 0, zf_getR 6 1, zf_ild 3, zf_aldI 100, zf_ic (-1), zf_ic2 .eq 69, zf_ald 0, zf_getR 6 1, zf_ild 3, zf_aldI 100, zf_ald 0, zf_getR 6 0, zf_ild 3, zf_ic 5, zf_ild 2, zf_sub, zf_inv h 0 24 2, zf_add, zf_ald 0, zf_getR 6 2, zf_ild 1, zf_aldI 100, zf_add, zf_ald 0, zf_getR 6 1, zf_ild 1, zf_aldI 100, zf_ic2 .ne 69, zf_ild 3, zf_reti], 69),
  (69, [zf_inc 2 1, zf_go 2], 75),
  (75, [zf_ic (-1), zf_reti], 77)]
theorem zT6_0 (h : Nat) : zTab h 6 0 4 (zt6_0 h) := zTab.mk (ret := (some .int)) (bl := xk6_0) (by decide +kernel) (by decide +kernel) rfl rfl
def zt6_1 (h : Nat) : ZB := [(0, [zf_ald 0, zf_getR 6 0, zf_getI 0 1, zf_ald 0, zf_getR 6 0, zf_getI 0 2, zf_mul, zf_ald 0, zf_getR 6 0, zf_getI 0 3, zf_mul, zf_ist 2, zf_ic 0, zf_ist 3, zf_ic 0, zf_ist 4], 29),
  (29, [zf_ild 4, zf_ild 2, zf_ic2 .ge 115, zf_ic 0, zf_ist 5], 38),
  (38, [zf_ild 5, zf_ic 6, zf_ic2 .ge 109, zf_ald 0, zf_getR 6 1, zf_ild 4, zf_aldI 100, zf_ic (-1), zf_ic2 .eq 109, zf_ald 0, zf_getR 6 0, zf_ild 4, zf_ild 5, zf_inv h 0 16 2, zf_ist 6, zf_ild 6, zf_ic (-1), zf_ic2 .eq 103, zf_ald 0, zf_getR 6 0, zf_ild 6, zf_ild 1, zf_inv h 0 11 2, zf_if .eq 103, zf_ild 3, zf_ic 1, zf_ald 0, zf_getR 6 0, zf_getR 0 8, zf_ild 6, zf_aldI 100, zf_bit zshl, zf_bit zor, zf_ist 3], 103),
  (103, [zf_inc 5 1, zf_go 38], 109),
  (109, [zf_inc 4 1, zf_go 29], 115),
  (115, [zf_ild 3, zf_reti], 117)]
theorem zT6_1 (h : Nat) : zTab h 6 1 7 (zt6_1 h) := zTab.mk (ret := (some .int)) (bl := xk6_1) (by decide +kernel) (by decide +kernel) rfl rfl
def zt6_2 (h : Nat) : ZB := [(0, [zf_ald 0, zf_getR 6 0, zf_ald 0, zf_getR 6 0, zf_getL 0 4, zf_lc 6364136223846793005, zf_lmul, zf_lc 1442695040888963407, zf_ladd, zf_putL 0 4, zf_ald 0, zf_getR 6 0, zf_getL 0 4, zf_ic 33, zf_lsh zlushr, zf_retl], 33)]
theorem zT6_2 (h : Nat) : zTab h 6 2 1 (zt6_2 h) := zTab.mk (ret := (some .long)) (bl := xk6_2) (by decide +kernel) (by decide +kernel) rfl rfl
def zt6_3 (h : Nat) : ZB := [(0, [zf_ic 0, zf_ist 2], 2),
  (2, [zf_ild 2, zf_ald 0, zf_getR 6 0, zf_getR 0 10, zf_getI 7 2, zf_ic2 .ge 43, zf_ald 0, zf_getR 6 0, zf_ild 2, zf_inv h 0 19 1, zf_ild 1, zf_ic2 .ne 37, zf_ald 0, zf_getR 6 0, zf_ild 2, zf_inv h 0 18 1, zf_reti], 37),
  (37, [zf_inc 2 1, zf_go 2], 43),
  (43, [zf_ic (-1), zf_reti], 45)]
theorem zT6_3 (h : Nat) : zTab h 6 3 3 (zt6_3 h) := zTab.mk (ret := (some .int)) (bl := xk6_3) (by decide +kernel) (by decide +kernel) rfl rfl
def zt6_4 (h : Nat) : ZB := [(0, [zf_ic 0, zf_ist 1, zf_ic 0, zf_ist 2], 4),
  (4, [zf_ild 2, zf_ald 0, zf_getR 6 0, zf_getR 0 11, zf_getI 7 2, zf_ic2 .ge 45, zf_ald 0, zf_getR 6 0, zf_ild 2, zf_inv h 0 13 1, zf_if .eq 39, zf_ald 0, zf_getR 6 6, zf_ild 1, zf_ild 2, zf_astI, zf_inc 1 1], 39),
  (39, [zf_inc 2 1, zf_go 4], 45),
  (45, [zf_ild 1, zf_ic 1, zf_sub, zf_ist 2], 49),
  (49, [zf_ild 2, zf_if .le 98, zf_ald 0, zf_inv h 6 2 0, zf_ild 2, zf_ic 1, zf_add, zf_i2l, zf_lrem, zf_l2i, zf_ist 3, zf_ald 0, zf_getR 6 6, zf_ild 2, zf_aldI 100, zf_ist 4, zf_ald 0, zf_getR 6 6, zf_ild 2, zf_ald 0, zf_getR 6 6, zf_ild 3, zf_aldI 100, zf_astI, zf_ald 0, zf_getR 6 6, zf_ild 3, zf_ild 4, zf_astI, zf_inc 2 (-1), zf_go 49], 98),
  (98, [zf_ic 0, zf_ist 2], 100),
  (100, [zf_ild 2, zf_ild 1, zf_ic2 .ge 137, zf_ald 0, zf_getR 6 0, zf_ald 0, zf_getR 6 6, zf_ild 2, zf_aldI 100, zf_inv h 0 13 1, zf_if .eq 131, zf_ald 0, zf_ald 0, zf_getR 6 6, zf_ild 2, zf_aldI 100, zf_inv h 6 10 1], 131),
  (131, [zf_inc 2 1, zf_go 100], 137),
  (137, [zf_ret], 138)]
theorem zT6_4 (h : Nat) : zTab h 6 4 5 (zt6_4 h) := zTab.mk (ret := none) (bl := xk6_4) (by decide +kernel) (by decide +kernel) rfl rfl
def zt6_5 (h : Nat) : ZB := [(0, [zf_ild 2, zf_ic (-1), zf_ic2 .eq 31, zf_ald 0, zf_getR 6 3, zf_ild 2, zf_ic 1, zf_astB, zf_ald 0, zf_getR 6 0, zf_getR 0 8, zf_ild 2, zf_ild 1, zf_astI, zf_ald 0, zf_getR 6 0, zf_ild 1, zf_ild 2, zf_inv h 0 1 2], 31),
  (31, [zf_ret], 32)]
theorem zT6_5 (h : Nat) : zTab h 6 5 3 (zt6_5 h) := zTab.mk (ret := none) (bl := xk6_5) (by decide +kernel) (by decide +kernel) rfl rfl
def zt6_7 (h : Nat) : ZB := [(0, [zf_ald 0, zf_getR 6 0, zf_getR 0 9, zf_ild 1, zf_aldI 100, zf_ic (-1), zf_ic2 .eq 39, zf_ald 0, zf_getR 6 0, zf_getR 0 8, zf_ild 1, zf_aldI 100, zf_ild 2, zf_ic2 .ne 39, zf_ald 0, zf_getR 6 3, zf_ild 1, zf_aldB, zf_if .ne 39, zf_ic 1, zf_go 40], 39),
  (39, [zf_ic 0], 40),
  (40, [zf_retz], 41)]
theorem zT6_7 (h : Nat) : zTab h 6 7 3 (zt6_7 h) := zTab.mk (ret := (some .boolean)) (bl := xk6_7) (by decide +kernel) (by decide +kernel) rfl rfl
def zt6_8 (h : Nat) : ZB := [(0, [zf_ald 0, zf_ild 1, zf_ic 0, zf_inv h 6 14 2, zf_ist 2, zf_ild 2, zf_ic (-1), zf_ic2 .ne 36, zf_ald 0, zf_getR 6 0, zf_getR 0 11, zf_ild 1, zf_ic 5, zf_ald 0, zf_ild 1, zf_inv h 6 1 1, zf_inv h 7 4 3, zf_ald 0, zf_ild 1, zf_ic 1, zf_inv h 6 14 2, zf_ist 2], 36),
  (36, [zf_ild 2, zf_ic (-1), zf_ic2 .ne 43, zf_ic (-1), zf_reti], 43),
  (43, [zf_ald 0, zf_getR 6 1, zf_ald 0, zf_getR 6 0, zf_ild 2, zf_inv h 0 18 1, zf_aldI 100, zf_ist 3, zf_ald 0, zf_ild 1, zf_ald 0, zf_getR 6 0, zf_ild 2, zf_inv h 0 18 1, zf_inv h 6 9 2, zf_ild 3, zf_reti], 72)]
theorem zT6_8 (h : Nat) : zTab h 6 8 4 (zt6_8 h) := zTab.mk (ret := (some .int)) (bl := xk6_8) (by decide +kernel) (by decide +kernel) rfl rfl
def zt6_9 (h : Nat) : ZB := [(0, [zf_ild 2, zf_ist 3, zf_ald 0, zf_getR 6 0, zf_ild 1, zf_inv h 0 27 1, zf_ist 4, zf_ic 0, zf_ist 5], 15),
  (15, [zf_ild 5, zf_ic 1024, zf_ic2 .ge 58, zf_ild 3, zf_ic (-1), zf_ic2 .eq 58, zf_ald 0, zf_getR 6 3, zf_ild 3, zf_aldB, zf_if .ne 58, zf_ald 0, zf_getR 6 0, zf_ild 1, zf_ild 3, zf_inv h 0 1 2, zf_ald 0, zf_ild 3, zf_inv h 6 0 1, zf_ist 3, zf_inc 5 1, zf_go 15], 58),
  (58, [zf_ald 0, zf_ild 1, zf_ild 4, zf_inv h 6 13 2, zf_ild 4, zf_ist 5], 69),
  (69, [zf_ild 5, zf_ald 0, zf_getR 6 0, zf_ild 1, zf_inv h 0 27 1, zf_ic2 .ge 123, zf_ald 0, zf_getR 6 3, zf_ald 0, zf_getR 6 0, zf_ild 1, zf_ild 5, zf_inv h 0 26 2, zf_ic 1, zf_astB, zf_ald 0, zf_getR 6 0, zf_getR 0 8, zf_ald 0, zf_getR 6 0, zf_ild 1, zf_ild 5, zf_inv h 0 26 2, zf_ild 1, zf_astI, zf_inc 5 1, zf_go 69], 123),
  (123, [zf_ret], 124)]
theorem zT6_9 (h : Nat) : zTab h 6 9 6 (zt6_9 h) := zTab.mk (ret := none) (bl := xk6_9) (by decide +kernel) (by decide +kernel) rfl rfl
def zt6_10 (h : Nat) : ZB := [(0, [zf_ic 0, zf_ist 2], 2),
  (2, [zf_ild 2, zf_ic 1024, zf_ic2 .ge 22, zf_ald 0, zf_getR 6 3, zf_ild 2, zf_ic 0, zf_astB, zf_inc 2 1, zf_go 2], 22),
  (22, [zf_ald 0, zf_ild 1, zf_ald 0, zf_ild 1, zf_inv h 6 3 1, zf_inv h 6 5 2, zf_lc 0, zf_lst 2, zf_ic 0, zf_ist 4, zf_ic 0, zf_ist 5], 40),
  (40, [zf_ild 5, zf_ic 5, zf_ic2 .ge 91, zf_ild 4, zf_if .ne 91, zf_ald 0, zf_ild 1, zf_inv h 6 18 1, zf_if .ne 91, zf_ald 0, zf_ild 1, zf_inv h 6 8 1, zf_ist 6, zf_ild 6, zf_ic (-1), zf_ic2 .ne 76, zf_ic 1, zf_go 77], 76),
  (76, [zf_ic 0], 77),
  (77, [zf_ist 4, zf_lld 2, zf_ild 6, zf_i2l, zf_ladd, zf_lst 2, zf_inc 5 1, zf_go 40], 91),
  (91, [zf_ild 4, zf_if .eq 107, zf_ald 0, zf_getR 6 0, zf_ild 1, zf_inv h 0 15 1, zf_go 147], 107),
  (107, [zf_ald 0, zf_getR 6 0, zf_getR 0 11, zf_ild 1, zf_ic 2, zf_ic 1, zf_inv h 7 4 3, zf_ald 0, zf_getR 6 0, zf_getR 0 11, zf_ild 1, zf_ic 3, zf_lld 2, zf_l2i, zf_inv h 7 4 3, zf_ald 0, zf_getR 6 0, zf_getR 0 11, zf_ild 1, zf_ic 5, zf_ic 0, zf_inv h 7 4 3], 147),
  (147, [zf_ret], 148)]
theorem zT6_10 (h : Nat) : zTab h 6 10 7 (zt6_10 h) := zTab.mk (ret := none) (bl := xk6_10) (by decide +kernel) (by decide +kernel) rfl rfl
def zt6_11 (h : Nat) : ZB := [(0, [zf_ic 0, zf_ist 3], 2),
  (2, [zf_ild 3, zf_ald 0, zf_getR 6 0, zf_getR 0 10, zf_getI 7 2, zf_ic2 .ge 57, zf_ald 0, zf_ald 0, zf_getR 6 0, zf_ild 3, zf_inv h 0 18 1, zf_ild 1, zf_inv h 6 7 2, zf_if .eq 51, zf_ald 0, zf_getR 6 1, zf_ald 0, zf_getR 6 0, zf_ild 3, zf_inv h 0 18 1, zf_aldI 100, zf_ild 2, zf_ic2 .ne 51, zf_ild 3, zf_reti], 51),
  (51, [zf_inc 3 1, zf_go 2], 57),
  (57, [zf_ic (-1), zf_reti], 59)]
theorem zT6_11 (h : Nat) : zTab h 6 11 4 (zt6_11 h) := zTab.mk (ret := (some .int)) (bl := xk6_11) (by decide +kernel) (by decide +kernel) rfl rfl
def zt6_12 (h : Nat) : ZB := [(0, [zf_ild 1, zf_ic (-1), zf_ic2 .eq 35, zf_ald 0, zf_getR 6 1, zf_ild 1, zf_aldI 100, zf_ic (-1), zf_ic2 .eq 25, zf_ald 0, zf_getR 6 1, zf_ild 1, zf_aldI 100, zf_ild 2, zf_ic2 .le 35], 25),
  (25, [zf_ald 0, zf_getI 6 5, zf_ic 7168, zf_ic2 .lt 36], 35),
  (35, [zf_ret], 36),
  (36, [zf_ald 0, zf_getR 6 1, zf_ild 1, zf_ild 2, zf_astI, zf_ild 2, zf_i2l, zf_lc 1024, zf_lmul, zf_ild 1, zf_i2l, zf_ladd, zf_lst 3, zf_ald 0, zf_getI 6 5, zf_ist 5, zf_ald 0, zf_dup, zf_getI 6 5, zf_ic 1, zf_add, zf_putI 6 5], 69),
  (69, [zf_ild 5, zf_if .le 119, zf_ald 0, zf_getR 6 4, zf_ild 5, zf_ic 1, zf_sub, zf_ic 2, zf_div, zf_aldL, zf_lld 3, zf_lcmp, zf_if .le 119, zf_ald 0, zf_getR 6 4, zf_ild 5, zf_ald 0, zf_getR 6 4, zf_ild 5, zf_ic 1, zf_sub, zf_ic 2, zf_div, zf_aldL, zf_astL, zf_ild 5, zf_ic 1, zf_sub, zf_ic 2, zf_div, zf_ist 5, zf_go 69], 119),
  (119, [zf_ald 0, zf_getR 6 4, zf_ild 5, zf_lld 3, zf_astL, zf_ret], 128)]
theorem zT6_12 (h : Nat) : zTab h 6 12 6 (zt6_12 h) := zTab.mk (ret := none) (bl := xk6_12) (by decide +kernel) (by decide +kernel) rfl rfl
def zt6_13 (h : Nat) : ZB := [(0, [zf_ic 0, zf_ist 3, zf_ild 2, zf_ist 4], 5),
  (5, [zf_ild 4, zf_ald 0, zf_getR 6 0, zf_ild 1, zf_inv h 0 27 1, zf_ic2 .ge 78, zf_ald 0, zf_getR 6 0, zf_ild 1, zf_ild 4, zf_inv h 0 26 2, zf_ist 5, zf_ald 0, zf_getR 6 0, zf_ild 5, zf_ild 1, zf_inv h 0 11 2, zf_if .eq 72, zf_ald 0, zf_getR 6 0, zf_getR 0 7, zf_ild 5, zf_dup2, zf_aldI 100, zf_ic 1, zf_add, zf_astI, zf_ild 3, zf_ic 1, zf_ald 0, zf_getR 6 0, zf_getR 0 8, zf_ild 5, zf_aldI 100, zf_bit zshl, zf_bit zor, zf_ist 3], 72),
  (72, [zf_inc 4 1, zf_go 5], 78),
  (78, [zf_ic 0, zf_ist 4], 81),
  (81, [zf_ild 4, zf_ic 12, zf_ic2 .ge 140, zf_ild 3, zf_ild 4, zf_bit zshr, zf_ic 1, zf_bit zand, zf_if .eq 134, zf_ald 0, zf_getR 6 0, zf_ild 4, zf_inv h 0 15 1, zf_ald 0, zf_getR 6 0, zf_getR 0 11, zf_ild 4, zf_ic 4, zf_ald 0, zf_getR 6 0, zf_getR 0 11, zf_ild 4, zf_ic 4, zf_inv h 7 1 2, zf_ic 1, zf_add, zf_inv h 7 4 3], 134),
  (134, [zf_inc 4 1, zf_go 81], 140),
  (140, [zf_ret], 141)]
theorem zT6_13 (h : Nat) : zTab h 6 13 6 (zt6_13 h) := zTab.mk (ret := none) (bl := xk6_13) (by decide +kernel) (by decide +kernel) rfl rfl
def zt6_14 (h : Nat) : ZB := [(0, [zf_ald 0, zf_getR 6 0, zf_getI 0 1, zf_ald 0, zf_getR 6 0, zf_getI 0 2, zf_mul, zf_ald 0, zf_getR 6 0, zf_getI 0 3, zf_mul, zf_ist 3, zf_ald 0, zf_ic 0, zf_putI 6 5, zf_ic 0, zf_ist 4], 32),
  (32, [zf_ild 4, zf_ild 3, zf_ic2 .ge 67, zf_ald 0, zf_getR 6 1, zf_ild 4, zf_ic (-1), zf_astI, zf_ald 0, zf_getR 6 2, zf_ild 4, zf_ald 0, zf_ild 4, zf_ild 1, zf_ild 2, zf_inv h 6 17 3, zf_astI, zf_inc 4 1, zf_go 32], 67),
  (67, [zf_ic 0, zf_ist 4], 70),
  (70, [zf_ild 4, zf_ald 0, zf_getR 6 0, zf_ild 1, zf_inv h 0 27 1, zf_ic2 .ge 104, zf_ald 0, zf_ald 0, zf_getR 6 0, zf_ild 1, zf_ild 4, zf_inv h 0 26 2, zf_ic 0, zf_inv h 6 12 2, zf_inc 4 1, zf_go 70], 104),
  (104, [zf_ic (-1), zf_ist 4, zf_ic 0, zf_ist 5], 110),
  (110, [zf_ild 5, zf_ic 7168, zf_ic2 .ge 214, zf_ald 0, zf_getI 6 5, zf_if .le 214, zf_ald 0, zf_inv h 6 16 0, zf_lst 6, zf_lld 6, zf_lc 1024, zf_ldiv, zf_l2i, zf_ist 8, zf_lld 6, zf_lc 1024, zf_lrem, zf_l2i, zf_ist 9, zf_ild 4, zf_ic (-1), zf_ic2 .eq 165, zf_ild 8, zf_ild 4, zf_ic2 .le 165, zf_go 214], 165),
  (165, [zf_ild 8, zf_ald 0, zf_getR 6 1, zf_ild 9, zf_aldI 100, zf_ic2 .ne 208, zf_ild 4, zf_ic (-1), zf_ic2 .ne 198, zf_ald 0, zf_ild 9, zf_ild 1, zf_inv h 6 7 2, zf_if .eq 198, zf_ild 8, zf_go 200], 198),
  (198, [zf_ild 4], 200),
  (200, [zf_ist 4, zf_ald 0, zf_ild 9, zf_inv h 6 15 1], 208),
  (208, [zf_inc 5 1, zf_go 110], 214),
  (214, [zf_ild 4, zf_ic (-1), zf_ic2 .ne 224, zf_ic (-1), zf_go 231], 224),
  (224, [zf_ald 0, zf_ild 1, zf_ild 4, zf_inv h 6 11 2], 231),
  (231, [zf_reti], 232)]
theorem zT6_14 (h : Nat) : zTab h 6 14 10 (zt6_14 h) := zTab.mk (ret := (some .int)) (bl := xk6_14) (by decide +kernel) (by decide +kernel) rfl rfl
def zt6_15 (h : Nat) : ZB := [(0, [zf_ic 0, zf_ist 2], 2),
  (2, [zf_ild 2, zf_ic 6, zf_ic2 .ge 67, zf_ald 0, zf_getR 6 0, zf_ild 1, zf_ild 2, zf_inv h 0 16 2, zf_ist 3, zf_ild 3, zf_ic (-1), zf_ic2 .eq 61, zf_ald 0, zf_getR 6 2, zf_ild 3, zf_aldI 100, zf_ic (-1), zf_ic2 .eq 61, zf_ald 0, zf_ild 3, zf_ald 0, zf_getR 6 1, zf_ild 1, zf_aldI 100, zf_ald 0, zf_getR 6 0, zf_ild 1, zf_ild 2, zf_inv h 0 24 2, zf_add, zf_ald 0, zf_getR 6 2, zf_ild 3, zf_aldI 100, zf_add, zf_inv h 6 12 2], 61),
  (61, [zf_inc 2 1, zf_go 2], 67),
  (67, [zf_ret], 68)]
theorem zT6_15 (h : Nat) : zTab h 6 15 4 (zt6_15 h) := zTab.mk (ret := none) (bl := xk6_15) (by decide +kernel) (by decide +kernel) rfl rfl
def zt6_16 (h : Nat) : ZB := [(0, [zf_ald 0, zf_getR 6 4, zf_ic 0, zf_aldL, zf_lst 1, zf_ald 0, zf_dup, zf_getI 6 5, zf_ic 1, zf_sub, zf_putI 6 5, zf_ald 0, zf_getR 6 4, zf_ald 0, zf_getI 6 5, zf_aldL, zf_lst 3, zf_ic 0, zf_ist 5, zf_ic 1, zf_ist 6], 33),
  (33, [zf_ild 6, zf_ald 0, zf_getI 6 5, zf_ic2 .ge 120, zf_ild 6, zf_ic 1, zf_add, zf_ald 0, zf_getI 6 5, zf_ic2 .ge 76, zf_ald 0, zf_getR 6 4, zf_ild 6, zf_ic 1, zf_add, zf_aldL, zf_ald 0, zf_getR 6 4, zf_ild 6, zf_aldL, zf_lcmp, zf_if .ge 76, zf_inc 6 1], 76),
  (76, [zf_ald 0, zf_getR 6 4, zf_ild 6, zf_aldL, zf_lld 3, zf_lcmp, zf_if .lt 91, zf_go 120], 91),
  (91, [zf_ald 0, zf_getR 6 4, zf_ild 5, zf_ald 0, zf_getR 6 4, zf_ild 6, zf_aldL, zf_astL, zf_ild 6, zf_ist 5, zf_ic 2, zf_ild 6, zf_mul, zf_ic 1, zf_add, zf_ist 6, zf_go 33], 120),
  (120, [zf_ald 0, zf_getR 6 4, zf_ild 5, zf_lld 3, zf_astL, zf_lld 1, zf_retl], 130)]
theorem zT6_16 (h : Nat) : zTab h 6 16 7 (zt6_16 h) := zTab.mk (ret := (some .long)) (bl := xk6_16) (by decide +kernel) (by decide +kernel) rfl rfl
def zt6_17 (h : Nat) : ZB := [(0, [zf_ald 0, zf_getR 6 0, zf_ild 1, zf_ild 2, zf_inv h 0 11 2, zf_ist 4, zf_ald 0, zf_getR 6 0, zf_getR 0 6, zf_ild 1, zf_aldB, zf_if .ne 45, zf_ild 4, zf_if .eq 47, zf_ild 3, zf_if .eq 45, zf_ald 0, zf_getR 6 0, zf_getR 0 9, zf_ild 1, zf_aldI 100, zf_ic (-1), zf_ic2 .eq 47], 45),
  (45, [zf_ic (-1), zf_reti], 47),
  (47, [zf_ald 0, zf_getR 6 0, zf_ild 1, zf_ild 2, zf_inv h 0 7 2, zf_ild 4, zf_if .eq 66, zf_ic 100, zf_go 67], 66),
  (66, [zf_ic 0], 67),
  (67, [zf_add, zf_reti], 69)]
theorem zT6_17 (h : Nat) : zTab h 6 17 5 (zt6_17 h) := zTab.mk (ret := (some .int)) (bl := xk6_17) (by decide +kernel) (by decide +kernel) rfl rfl
def zt6_18 (h : Nat) : ZB := [(0, [zf_ic 1, zf_ist 2, zf_ic 0, zf_ist 3], 4),
  (4, [zf_ild 3, zf_ald 0, zf_getR 6 0, zf_getR 0 10, zf_getI 7 2, zf_ic2 .ge 50, zf_ild 2, zf_if .eq 50, zf_ald 0, zf_ald 0, zf_getR 6 0, zf_ild 3, zf_inv h 0 18 1, zf_ild 1, zf_inv h 6 7 2, zf_if .ne 42, zf_ic 1, zf_go 43], 42),
  (42, [zf_ic 0], 43),
  (43, [zf_ist 2, zf_inc 3 1, zf_go 4], 50),
  (50, [zf_ild 2, zf_retz], 52)]
theorem zT6_18 (h : Nat) : zTab h 6 18 4 (zt6_18 h) := zTab.mk (ret := (some .boolean)) (bl := xk6_18) (by decide +kernel) (by decide +kernel) rfl rfl
