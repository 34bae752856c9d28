/-! TABLES of what methods of class 15 ask -/
def zt15_0 (h : Nat) : ZB := [(0, [zf_ald 0, zf_getI 15 2, zf_ic 60, zf_ic2 .ne 11, zf_ic (-1), zf_reti], 11),
  (11, [zf_ald 0, zf_getR 15 3, zf_ald 0, zf_getI 15 2, zf_ic 1, zf_astB, zf_ald 0, zf_getR 15 4, zf_ald 0, zf_getI 15 2, zf_ild 1, zf_astI, zf_ald 0, zf_getR 15 5, zf_ald 0, zf_getI 15 2, zf_ild 2, zf_astI, zf_ald 0, zf_getR 15 6, zf_ald 0, zf_getI 15 2, zf_lld 3, zf_astL, zf_ald 0, zf_getR 15 7, zf_ald 0, zf_getI 15 2, zf_lld 5, zf_astL, zf_ald 0, zf_getR 15 8, zf_ald 0, zf_getI 15 2, zf_lld 7, zf_astL, zf_ald 0, zf_getR 15 9, zf_ald 0, zf_getI 15 2, zf_lld 9, zf_astL, zf_ald 0, zf_getR 15 10, zf_ald 0, zf_getI 15 2, zf_lld 11, zf_astL, zf_ald 0, zf_getR 15 11, zf_ald 0, zf_getI 15 2, zf_ild 13, zf_astI, zf_ald 0, zf_dup, zf_getI 15 2, zf_ic 1, zf_add, zf_putI 15 2, zf_ald 0, zf_getI 15 2, zf_ic 1, zf_sub, zf_reti], 123)]
theorem zT15_0 (h : Nat) : zTab h 15 0 14 (zt15_0 h) := zTab.mk (ret := (some .int)) (bl := xk15_0) (by decide +kernel) (by decide +kernel) rfl rfl
def zt15_1 (h : Nat) : ZB := [(0, [zf_ald 0, zf_inv h 15 5 0, zf_pop, zf_ic 0, zf_ist 2], 7),
  (7, [zf_ild 2, zf_ald 0, zf_getI 15 2, zf_ic2 .ge 33, zf_ald 0, zf_getR 15 15, zf_ild 2, zf_ald 0, zf_getR 15 14, zf_ild 2, zf_aldI 100, zf_astI, zf_inc 2 1, zf_go 7], 33),
  (33, [zf_ic 0, zf_ist 2], 35),
  (35, [zf_ald 0, zf_ild 1, zf_inv h 15 18 1, zf_if .eq 49, zf_inc 2 1, zf_go 35], 49),
  (49, [zf_ild 2, zf_reti], 51)]
theorem zT15_1 (h : Nat) : zTab h 15 1 3 (zt15_1 h) := zTab.mk (ret := (some .int)) (bl := xk15_1) (by decide +kernel) (by decide +kernel) rfl rfl
def zt15_2 (h : Nat) : ZB := [(0, [zf_ald 0, zf_inv h 15 5 0, zf_ist 1, zf_ic 0, zf_ist 2, zf_ic 0, zf_ist 3], 9),
  (9, [zf_ild 3, zf_ild 1, zf_ic2 .ge 39, zf_ild 2, zf_ald 0, zf_ild 3, zf_inv h 15 17 1, zf_inst h 15 13 1, zf_if .eq 30, zf_ic 1, zf_go 31], 30),
  (30, [zf_ic 0], 31),
  (31, [zf_add, zf_ist 2, zf_inc 3 1, zf_go 9], 39),
  (39, [zf_ild 2, zf_reti], 41)]
theorem zT15_2 (h : Nat) : zTab h 15 2 4 (zt15_2 h) := zTab.mk (ret := (some .int)) (bl := xk15_2) (by decide +kernel) (by decide +kernel) rfl rfl
def zt15_3 (h : Nat) : ZB := [(0, [zf_ild 2, zf_if .ge 6, zf_ic 0, zf_retz], 6),
  (6, [zf_ald 0, zf_inv h 15 5 0, zf_pop, zf_ic 0, zf_ist 3], 13),
  (13, [zf_ild 3, zf_ald 0, zf_getI 15 2, zf_ic2 .ge 39, zf_ald 0, zf_getR 15 15, zf_ild 3, zf_ald 0, zf_getR 15 14, zf_ild 3, zf_aldI 100, zf_astI, zf_inc 3 1, zf_go 13], 39),
  (39, [zf_ic 0, zf_ist 3], 41),
  (41, [zf_ild 3, zf_ild 2, zf_ic2 .gt 62, zf_ald 0, zf_ild 1, zf_inv h 15 18 1, zf_if .ne 56, zf_ic 0, zf_retz], 56),
  (56, [zf_inc 3 1, zf_go 41], 62),
  (62, [zf_ic 1, zf_retz], 64)]
theorem zT15_3 (h : Nat) : zTab h 15 3 4 (zt15_3 h) := zTab.mk (ret := (some .boolean)) (bl := xk15_3) (by decide +kernel) (by decide +kernel) rfl rfl
def zt15_4 (h : Nat) : ZB := [(0, [zf_ic 0, zf_ist 1], 2),
  (2, [zf_ild 1, zf_ald 0, zf_getI 15 2, zf_ic2 .ge 36, zf_ald 0, zf_getR 15 13, zf_ild 1, zf_ald 0, zf_getR 15 3, zf_ild 1, zf_aldB, zf_if .eq 28, zf_ild 1, zf_go 29], 28),
  (28, [zf_ic (-1)], 29),
  (29, [zf_astI, zf_inc 1 1, zf_go 2], 36),
  (36, [zf_ic 1, zf_ist 1], 38),
  (38, [zf_ild 1, zf_if .eq 153, zf_ic 0, zf_ist 1, zf_ic 0, zf_ist 2], 46),
  (46, [zf_ild 2, zf_ald 0, zf_getI 15 2, zf_ic2 .ge 150, zf_ic 0, zf_ist 3], 56),
  (56, [zf_ild 3, zf_ild 2, zf_ic2 .ge 144, zf_ald 0, zf_getR 15 13, zf_ild 2, zf_aldI 100, zf_ald 0, zf_getR 15 13, zf_ild 3, zf_aldI 100, zf_ic2 .eq 138, zf_ald 0, zf_ild 2, zf_ild 3, zf_inv h 15 26 2, zf_if .ne 88, zf_go 138], 88),
  (88, [zf_ald 0, zf_getR 15 13, zf_ild 2, zf_aldI 100, zf_ald 0, zf_getR 15 13, zf_ild 3, zf_aldI 100, zf_ic2 .ge 112, zf_ald 0, zf_getR 15 13, zf_ild 2, zf_aldI 100, zf_go 118], 112),
  (112, [zf_ald 0, zf_getR 15 13, zf_ild 3, zf_aldI 100], 118),
  (118, [zf_ist 4, zf_ald 0, zf_getR 15 13, zf_ild 2, zf_ild 4, zf_astI, zf_ald 0, zf_getR 15 13, zf_ild 3, zf_ild 4, zf_astI, zf_ic 1, zf_ist 1], 138),
  (138, [zf_inc 3 1, zf_go 56], 144),
  (144, [zf_inc 2 1, zf_go 46], 150),
  (150, [zf_go 38], 153),
  (153, [zf_ret], 154)]
theorem zT15_4 (h : Nat) : zTab h 15 4 5 (zt15_4 h) := zTab.mk (ret := none) (bl := xk15_4) (by decide +kernel) (by decide +kernel) rfl rfl
def zt15_5 (h : Nat) : ZB := [(0, [zf_ald 0, zf_inv h 15 4 0, zf_ic 0, zf_ist 1, zf_ic 0, zf_ist 2], 8),
  (8, [zf_ild 2, zf_ald 0, zf_getI 15 2, zf_ic2 .ge 82, zf_ald 0, zf_getR 15 13, zf_ild 2, zf_aldI 100, zf_ic (-1), zf_ic2 .ne 36, zf_ald 0, zf_getR 15 14, zf_ild 2, zf_ic (-1), zf_astI, zf_go 76], 36),
  (36, [zf_ald 0, zf_getR 15 13, zf_ild 2, zf_aldI 100, zf_ild 2, zf_ic2 .ne 59, zf_ald 0, zf_getR 15 14, zf_ild 2, zf_ild 1, zf_astI, zf_inc 1 1, zf_go 76], 59),
  (59, [zf_ald 0, zf_getR 15 14, zf_ild 2, zf_ald 0, zf_getR 15 14, zf_ald 0, zf_getR 15 13, zf_ild 2, zf_aldI 100, zf_aldI 100, zf_astI], 76),
  (76, [zf_inc 2 1, zf_go 8], 82),
  (82, [zf_ild 1, zf_reti], 84)]
theorem zT15_5 (h : Nat) : zTab h 15 5 3 (zt15_5 h) := zTab.mk (ret := (some .int)) (bl := xk15_5) (by decide +kernel) (by decide +kernel) rfl rfl
def zt15_6 (h : Nat) : ZB := [(0, [zf_lld 4, zf_lld 2, zf_lcmp, zf_if .le 14, zf_lld 4, zf_lld 2, zf_lsub, zf_go 29], 14),
  (14, [zf_lld 0, zf_lld 6, zf_lcmp, zf_if .le 28, zf_lld 0, zf_lld 6, zf_lsub, zf_go 29], 28),
  (28, [zf_lc 0], 29),
  (29, [zf_retl], 30)]
theorem zT15_6 (h : Nat) : zTab h 15 6 8 (zt15_6 h) := zTab.mk (ret := (some .long)) (bl := xk15_6) (by decide +kernel) (by decide +kernel) rfl rfl
def zt15_7 (h : Nat) : ZB := [(0, [zf_ald 0, zf_ini, zf_ald 0, zf_ic 60, zf_newA 103, zf_putR 15 3, zf_ald 0, zf_ic 60, zf_newA 100, zf_putR 15 4, zf_ald 0, zf_ic 60, zf_newA 100, zf_putR 15 5, zf_ald 0, zf_ic 60, zf_newA 101, zf_putR 15 6, zf_ald 0, zf_ic 60, zf_newA 101, zf_putR 15 7, zf_ald 0, zf_ic 60, zf_newA 101, zf_putR 15 8, zf_ald 0, zf_ic 60, zf_newA 101, zf_putR 15 9, zf_ald 0, zf_ic 60, zf_newA 101, zf_putR 15 10, zf_ald 0, zf_ic 60, zf_newA 100, zf_putR 15 11, zf_ald 0, zf_ic 40, zf_newA 100, zf_putR 15 12, zf_ald 0, zf_ic 60, zf_newA 100, zf_putR 15 13, zf_ald 0, zf_ic 60, zf_newA 100, zf_putR 15 14, zf_ald 0, zf_ic 60, zf_newA 100, zf_putR 15 15, zf_ald 0, zf_ild 1, zf_ic 1, zf_ic2 .ge 118, zf_ic 1, zf_go 130], 118),
  (118, [zf_ild 1, zf_ic 8, zf_ic2 .le 129, zf_ic 8, zf_go 130], 129),
  (129, [zf_ild 1], 130),
  (130, [zf_putI 15 1, zf_ic 0, zf_ist 2], 135),
  (135, [zf_ild 2, zf_ic 40, zf_ic2 .ge 154, zf_ald 0, zf_getR 15 12, zf_ild 2, zf_ic (-1), zf_astI, zf_inc 2 1, zf_go 135], 154),
  (154, [zf_ret], 155)]
theorem zT15_7 (h : Nat) : zTab h 15 7 3 (zt15_7 h) := zTab.mk (ret := none) (bl := xk15_7) (by decide +kernel) (by decide +kernel) rfl rfl
def zt15_8 (h : Nat) : ZB := [(0, [zf_ild 1, zf_if .lt 16, zf_ild 1, zf_ald 0, zf_getI 15 1, zf_ic2 .ge 16, zf_ic 1, zf_go 17], 16),
  (16, [zf_ic 0], 17),
  (17, [zf_retz], 18)]
theorem zT15_8 (h : Nat) : zTab h 15 8 2 (zt15_8 h) := zTab.mk (ret := (some .boolean)) (bl := xk15_8) (by decide +kernel) (by decide +kernel) rfl rfl
def zt15_9 (h : Nat) : ZB := [(0, [zf_ild 0, zf_if .lt 14, zf_ild 0, zf_ic 20, zf_ic2 .ge 14, zf_ic 1, zf_go 15], 14),
  (14, [zf_ic 0], 15),
  (15, [zf_retz], 16)]
theorem zT15_9 (h : Nat) : zTab h 15 9 1 (zt15_9 h) := zTab.mk (ret := (some .boolean)) (bl := xk15_9) (by decide +kernel) (by decide +kernel) rfl rfl
def zt15_10 (h : Nat) : ZB := [(0, [zf_ild 1, zf_if .lt 16, zf_ild 1, zf_ald 0, zf_getI 15 2, zf_ic2 .ge 16, zf_ic 1, zf_go 17], 16),
  (16, [zf_ic 0], 17),
  (17, [zf_retz], 18)]
theorem zT15_10 (h : Nat) : zTab h 15 10 2 (zt15_10 h) := zTab.mk (ret := (some .boolean)) (bl := xk15_10) (by decide +kernel) (by decide +kernel) rfl rfl
def zt15_11 (h : Nat) : ZB := [(0, [zf_ild 0, zf_if .lt 14, zf_ild 0, zf_ic 40, zf_ic2 .ge 14, zf_ic 1, zf_go 15], 14),
  (14, [zf_ic 0], 15),
  (15, [zf_retz], 16)]
theorem zT15_11 (h : Nat) : zTab h 15 11 1 (zt15_11 h) := zTab.mk (ret := (some .boolean)) (bl := xk15_11) (by decide +kernel) (by decide +kernel) rfl rfl
def zt15_12 (h : Nat) : ZB := [(0, [zf_lld 0, zf_lc (-100000), zf_lcmp, zf_if .lt 36, zf_lld 0, zf_lc 100000, zf_lcmp, zf_if .gt 36, zf_lld 2, zf_lc (-100000), zf_lcmp, zf_if .lt 36, zf_lld 2, zf_lc 100000, zf_lcmp, zf_if .gt 36, zf_ic 1, zf_go 37], 36),
  (36, [zf_ic 0], 37),
  (37, [zf_retz], 38)]
theorem zT15_12 (h : Nat) : zTab h 15 12 4 (zt15_12 h) := zTab.mk (ret := (some .boolean)) (bl := xk15_12) (by decide +kernel) (by decide +kernel) rfl rfl
def zt15_13 (h : Nat) : ZB := [(0, [zf_ild 0, zf_ild 0, zf_ic 1, zf_sub, zf_bit zand, zf_if .eq 12, zf_ic 1, zf_go 13], 12),
  (12, [zf_ic 0], 13),
  (13, [zf_retz], 14)]
theorem zT15_13 (h : Nat) : zTab h 15 13 1 (zt15_13 h) := zTab.mk (ret := (some .boolean)) (bl := xk15_13) (by decide +kernel) (by decide +kernel) rfl rfl
def zt15_14 (h : Nat) : ZB := [(0, [zf_lld 0, zf_lc 1, zf_lcmp, zf_if .lt 18, zf_lld 0, zf_lc 100000, zf_lcmp, zf_if .gt 18, zf_ic 1, zf_go 19], 18),
  (18, [zf_ic 0], 19),
  (19, [zf_retz], 20)]
theorem zT15_14 (h : Nat) : zTab h 15 14 2 (zt15_14 h) := zTab.mk (ret := (some .boolean)) (bl := xk15_14) (by decide +kernel) (by decide +kernel) rfl rfl
def zt15_15 (h : Nat) : ZB := [(0, [zf_ald 0, zf_ild 1, zf_inst h 15 9 1, zf_if .eq 21, zf_ild 3, zf_if .eq 17, zf_ild 3, zf_ic 1, zf_ic2 .ne 21], 17),
  (17, [zf_ic 0, zf_go 22], 21),
  (21, [zf_ic 1], 22),
  (22, [zf_putI 15 0, zf_ald 0, zf_getI 15 0, zf_if .eq 34, zf_ic 0, zf_reti], 34),
  (34, [zf_ald 0, zf_ild 1, zf_ild 2, zf_inv h 15 3 2, zf_if .ne 45, zf_ic (-1), zf_reti], 45),
  (45, [zf_ild 3, zf_if .ne 56, zf_ald 0, zf_getI 15 17, zf_go 60], 56),
  (56, [zf_ald 0, zf_getI 15 18], 60),
  (60, [zf_reti], 61)]
theorem zT15_15 (h : Nat) : zTab h 15 15 4 (zt15_15 h) := zTab.mk (ret := (some .int)) (bl := xk15_15) (by decide +kernel) (by decide +kernel) rfl rfl
def zt15_16 (h : Nat) : ZB := [(0, [zf_ald 0, zf_ald 0, zf_ild 1, zf_inv h 15 10 1, zf_if .eq 13, zf_ic 0, zf_go 14], 13),
  (13, [zf_ic 1], 14),
  (14, [zf_putI 15 0, zf_ald 0, zf_getI 15 0, zf_if .eq 26, zf_ic 0, zf_reti], 26),
  (26, [zf_ald 0, zf_inv h 15 5 0, zf_pop, zf_ald 0, zf_getR 15 14, zf_ild 1, zf_aldI 100, zf_reti], 38)]
theorem zT15_16 (h : Nat) : zTab h 15 16 2 (zt15_16 h) := zTab.mk (ret := (some .int)) (bl := xk15_16) (by decide +kernel) (by decide +kernel) rfl rfl
def zt15_17 (h : Nat) : ZB := [(0, [zf_ic 0, zf_ist 2, zf_ic 0, zf_ist 3], 4),
  (4, [zf_ild 3, zf_ald 0, zf_getI 15 2, zf_ic2 .ge 56, zf_ald 0, zf_getR 15 14, zf_ild 3, zf_aldI 100, zf_ild 1, zf_ic2 .ne 50, zf_ald 0, zf_getR 15 3, zf_ild 3, zf_aldB, zf_if .eq 50, zf_ald 0, zf_ild 3, zf_inv h 15 21 1, zf_ic (-1), zf_ic2 .eq 50, zf_ild 2, zf_ic 1, zf_ald 0, zf_ild 3, zf_inv h 15 21 1, zf_bit zshl, zf_bit zor, zf_ist 2], 50),
  (50, [zf_inc 3 1, zf_go 4], 56),
  (56, [zf_ild 2, zf_reti], 58)]
theorem zT15_17 (h : Nat) : zTab h 15 17 4 (zt15_17 h) := zTab.mk (ret := (some .int)) (bl := xk15_17) (by decide +kernel) (by decide +kernel) rfl rfl
def zt15_18 (h : Nat) : ZB := [(0, [zf_ic 0, zf_ist 2, zf_ic 0, zf_ist 3], 4),
  (4, [zf_ild 3, zf_ald 0, zf_getI 15 2, zf_ic2 .ge 216, zf_ic 0, zf_ist 4], 15),
  (15, [zf_ild 4, zf_ild 3, zf_ic2 .ge 210, zf_ald 0, zf_ild 4, zf_inv h 15 21 1, zf_ild 1, zf_ic2 .ne 204, zf_ald 0, zf_ild 3, zf_inv h 15 21 1, zf_ild 1, zf_ic2 .ne 204, zf_ald 0, zf_getR 15 15, zf_ild 4, zf_aldI 100, zf_ald 0, zf_getR 15 15, zf_ild 3, zf_aldI 100, zf_ic2 .ne 59, zf_go 204], 59),
  (59, [zf_ald 0, zf_getR 15 6, zf_ild 4, zf_aldL, zf_ald 0, zf_getR 15 6, zf_ild 3, zf_aldL, zf_lsub, zf_ald 0, zf_getR 15 6, zf_ild 4, zf_aldL, zf_ald 0, zf_getR 15 6, zf_ild 3, zf_aldL, zf_lsub, zf_lmul, zf_ald 0, zf_getR 15 7, zf_ild 4, zf_aldL, zf_ald 0, zf_getR 15 7, zf_ild 3, zf_aldL, zf_lsub, zf_ald 0, zf_getR 15 7, zf_ild 4, zf_aldL, zf_ald 0, zf_getR 15 7, zf_ild 3, zf_aldL, zf_lsub, zf_lmul, zf_ladd, zf_lst 5, zf_ild 2, zf_if .eq 170, zf_lld 5, zf_ald 0, zf_getL 15 16, zf_lcmp, zf_if .lt 170, zf_lld 5, zf_ald 0, zf_getL 15 16, zf_lcmp, zf_if .ne 174, zf_ild 4, zf_ald 0, zf_getI 15 17, zf_ic2 .lt 170, zf_ild 4, zf_ald 0, zf_getI 15 17, zf_ic2 .ne 174, zf_ild 3, zf_ald 0, zf_getI 15 18, zf_ic2 .ge 174], 170),
  (170, [zf_ic 1, zf_go 175], 174),
  (174, [zf_ic 0], 175),
  (175, [zf_ist 7, zf_ild 7, zf_if .ne 185, zf_go 204], 185),
  (185, [zf_ic 1, zf_ist 2, zf_ald 0, zf_lld 5, zf_putL 15 16, zf_ald 0, zf_ild 4, zf_putI 15 17, zf_ald 0, zf_ild 3, zf_putI 15 18], 204),
  (204, [zf_inc 4 1, zf_go 15], 210),
  (210, [zf_inc 3 1, zf_go 4], 216),
  (216, [zf_ild 2, zf_if .ne 222, zf_ic 0, zf_retz], 222),
  (222, [zf_ald 0, zf_getR 15 15, zf_ald 0, zf_getI 15 17, zf_aldI 100, zf_ist 3, zf_ald 0, zf_getR 15 15, zf_ald 0, zf_getI 15 18, zf_aldI 100, zf_ist 4, zf_ic 0, zf_ist 5], 246),
  (246, [zf_ild 5, zf_ald 0, zf_getI 15 2, zf_ic2 .ge 291, zf_ald 0, zf_getR 15 15, zf_ild 5, zf_ald 0, zf_getR 15 15, zf_ild 5, zf_aldI 100, zf_ild 4, zf_ic2 .ne 277, zf_ild 3, zf_go 284], 277),
  (277, [zf_ald 0, zf_getR 15 15, zf_ild 5, zf_aldI 100], 284),
  (284, [zf_astI, zf_inc 5 1, zf_go 246], 291),
  (291, [zf_ic 1, zf_retz], 293)]
theorem zT15_18 (h : Nat) : zTab h 15 18 8 (zt15_18 h) := zTab.mk (ret := (some .boolean)) (bl := xk15_18) (by decide +kernel) (by decide +kernel) rfl rfl
def zt15_19 (h : Nat) : ZB := [(0, [zf_ald 0, zf_ild 1, zf_inst h 15 9 1, zf_if .eq 12, zf_ic 0, zf_go 13], 12),
  (12, [zf_ic 1], 13),
  (13, [zf_putI 15 0, zf_ald 0, zf_getI 15 0, zf_if .ne 31, zf_ald 0, zf_ild 1, zf_inv h 15 1 1, zf_go 32], 31),
  (31, [zf_ic 0], 32),
  (32, [zf_reti], 33)]
theorem zT15_19 (h : Nat) : zTab h 15 19 2 (zt15_19 h) := zTab.mk (ret := (some .int)) (bl := xk15_19) (by decide +kernel) (by decide +kernel) rfl rfl
def zt15_20 (h : Nat) : ZB := [(0, [zf_ald 0, zf_ild 1, zf_inst h 15 11 1, zf_if .eq 16, zf_ald 0, zf_ild 2, zf_inv h 15 8 1, zf_if .ne 20], 16),
  (16, [zf_ic 1, zf_go 42], 20),
  (20, [zf_lld 3, zf_lld 5, zf_inst h 15 12 2, zf_if .eq 41, zf_lld 7, zf_inst h 15 14 1, zf_if .eq 41, zf_ic 0, zf_go 42], 41),
  (41, [zf_ic 2], 42),
  (42, [zf_putI 15 0, zf_ald 0, zf_getI 15 0, zf_if .ne 69, zf_ald 0, zf_ild 2, zf_ild 2, zf_lld 3, zf_lld 5, zf_lc 0, zf_lc 0, zf_lld 7, zf_ild 1, zf_inv h 15 0 8, zf_go 70], 69),
  (69, [zf_ic 0], 70),
  (70, [zf_reti], 71)]
theorem zT15_20 (h : Nat) : zTab h 15 20 9 (zt15_20 h) := zTab.mk (ret := (some .int)) (bl := xk15_20) (by decide +kernel) (by decide +kernel) rfl rfl
def zt15_21 (h : Nat) : ZB := [(0, [zf_ald 0, zf_getR 15 11, zf_ild 1, zf_aldI 100, zf_ic (-1), zf_ic2 .eq 19, zf_ald 0, zf_getR 15 3, zf_ild 1, zf_aldB, zf_if .ne 23], 19),
  (19, [zf_ic (-1), zf_go 34], 23),
  (23, [zf_ald 0, zf_getR 15 12, zf_ald 0, zf_getR 15 11, zf_ild 1, zf_aldI 100, zf_aldI 100], 34),
  (34, [zf_reti], 35)]
theorem zT15_21 (h : Nat) : zTab h 15 21 2 (zt15_21 h) := zTab.mk (ret := (some .int)) (bl := xk15_21) (by decide +kernel) (by decide +kernel) rfl rfl
def zt15_22 (h : Nat) : ZB := [(0, [zf_ald 0, zf_ild 1, zf_inst h 15 11 1, zf_if .ne 12, zf_ic 1, zf_go 29], 12),
  (12, [zf_ild 2, zf_ic (-1), zf_ic2 .eq 24, zf_ild 2, zf_inst h 15 9 1, zf_if .eq 28], 24),
  (24, [zf_ic 0, zf_go 29], 28),
  (28, [zf_ic 2], 29),
  (29, [zf_putI 15 0, zf_ald 0, zf_getI 15 0, zf_if .ne 49, zf_ald 0, zf_getR 15 12, zf_ild 1, zf_aldI 100, zf_ild 2, zf_ic2 .ne 51], 49),
  (49, [zf_ic 0, zf_retz], 51),
  (51, [zf_ald 0, zf_getR 15 12, zf_ild 1, zf_ild 2, zf_astI, zf_ic 1, zf_retz], 60)]
theorem zT15_22 (h : Nat) : zTab h 15 22 3 (zt15_22 h) := zTab.mk (ret := (some .boolean)) (bl := xk15_22) (by decide +kernel) (by decide +kernel) rfl rfl
def zt15_23 (h : Nat) : ZB := [(0, [zf_lld 2, zf_lld 4, zf_inst h 15 12 2, zf_if .eq 29, zf_lld 6, zf_inst h 15 14 1, zf_if .eq 29, zf_lld 8, zf_inst h 15 14 1, zf_if .eq 29, zf_ic 1, zf_go 30], 29),
  (29, [zf_ic 0], 30),
  (30, [zf_ist 10, zf_ald 0, zf_ald 0, zf_ild 1, zf_inv h 15 8 1, zf_if .ne 45, zf_ic 1, zf_go 55], 45),
  (45, [zf_ild 10, zf_if .eq 54, zf_ic 0, zf_go 55], 54),
  (54, [zf_ic 2], 55),
  (55, [zf_putI 15 0, zf_ald 0, zf_getI 15 0, zf_if .ne 83, zf_ald 0, zf_ild 1, zf_ild 1, zf_lld 2, zf_lld 4, zf_lld 6, zf_lld 8, zf_lc 0, zf_ic (-1), zf_inv h 15 0 8, zf_go 84], 83),
  (83, [zf_ic 0], 84),
  (84, [zf_reti], 85)]
theorem zT15_23 (h : Nat) : zTab h 15 23 11 (zt15_23 h) := zTab.mk (ret := (some .int)) (bl := xk15_23) (by decide +kernel) (by decide +kernel) rfl rfl
def zt15_24 (h : Nat) : ZB := [(0, [zf_ald 0, zf_ic 0, zf_putI 15 0, zf_ald 0, zf_inv h 15 2 0, zf_reti], 10)]
theorem zT15_24 (h : Nat) : zTab h 15 24 1 (zt15_24 h) := zTab.mk (ret := (some .int)) (bl := xk15_24) (by decide +kernel) (by decide +kernel) rfl rfl
def zt15_25 (h : Nat) : ZB := [(0, [zf_ald 0, zf_getI 15 0, zf_reti], 5)]
theorem zT15_25 (h : Nat) : zTab h 15 25 1 (zt15_25 h) := zTab.mk (ret := (some .int)) (bl := xk15_25) (by decide +kernel) (by decide +kernel) rfl rfl
def zt15_26 (h : Nat) : ZB := [(0, [zf_ald 0, zf_getR 15 3, zf_ild 1, zf_aldB, zf_if .eq 48, zf_ald 0, zf_getR 15 3, zf_ild 2, zf_aldB, zf_if .eq 48, zf_ald 0, zf_getR 15 4, zf_ild 1, zf_aldI 100, zf_ald 0, zf_getR 15 5, zf_ild 2, zf_aldI 100, zf_ic2 .gt 48, zf_ald 0, zf_getR 15 4, zf_ild 2, zf_aldI 100, zf_ald 0, zf_getR 15 5, zf_ild 1, zf_aldI 100, zf_ic2 .le 50], 48),
  (48, [zf_ic 0, zf_retz], 50),
  (50, [zf_ald 0, zf_getR 15 6, zf_ild 1, zf_aldL, zf_ald 0, zf_getR 15 6, zf_ild 1, zf_aldL, zf_ald 0, zf_getR 15 8, zf_ild 1, zf_aldL, zf_ladd, zf_ald 0, zf_getR 15 6, zf_ild 2, zf_aldL, zf_ald 0, zf_getR 15 6, zf_ild 2, zf_aldL, zf_ald 0, zf_getR 15 8, zf_ild 2, zf_aldL, zf_ladd, zf_inst h 15 6 4, zf_lst 3, zf_ald 0, zf_getR 15 7, zf_ild 1, zf_aldL, zf_ald 0, zf_getR 15 7, zf_ild 1, zf_aldL, zf_ald 0, zf_getR 15 9, zf_ild 1, zf_aldL, zf_ladd, zf_ald 0, zf_getR 15 7, zf_ild 2, zf_aldL, zf_ald 0, zf_getR 15 7, zf_ild 2, zf_aldL, zf_ald 0, zf_getR 15 9, zf_ild 2, zf_aldL, zf_ladd, zf_inst h 15 6 4, zf_lst 5, zf_ald 0, zf_getR 15 10, zf_ild 1, zf_aldL, zf_ald 0, zf_getR 15 10, zf_ild 2, zf_aldL, zf_ladd, zf_lst 7, zf_lld 3, zf_lld 3, zf_lmul, zf_lld 5, zf_lld 5, zf_lmul, zf_ladd, zf_lld 7, zf_lld 7, zf_lmul, zf_lcmp, zf_if .gt 172, zf_ic 1, zf_go 173], 172),
  (172, [zf_ic 0], 173),
  (173, [zf_retz], 174)]
theorem zT15_26 (h : Nat) : zTab h 15 26 9 (zt15_26 h) := zTab.mk (ret := (some .boolean)) (bl := xk15_26) (by decide +kernel) (by decide +kernel) rfl rfl
def zt15_27 (h : Nat) : ZB := [(0, [zf_ild 1, zf_ild 2, zf_ic2 .gt 26, zf_lld 3, zf_lld 5, zf_inst h 15 12 2, zf_if .eq 26, zf_lld 7, zf_inst h 15 14 1, zf_if .eq 26, zf_ic 1, zf_go 27], 26),
  (26, [zf_ic 0], 27),
  (27, [zf_ist 9, zf_ald 0, zf_ald 0, zf_ild 1, zf_inv h 15 8 1, zf_if .eq 46, zf_ald 0, zf_ild 2, zf_inv h 15 8 1, zf_if .ne 50], 46),
  (46, [zf_ic 1, zf_go 60], 50),
  (50, [zf_ild 9, zf_if .eq 59, zf_ic 0, zf_go 60], 59),
  (59, [zf_ic 2], 60),
  (60, [zf_putI 15 0, zf_ald 0, zf_getI 15 0, zf_if .ne 87, zf_ald 0, zf_ild 1, zf_ild 2, zf_lld 3, zf_lld 5, zf_lc 0, zf_lc 0, zf_lld 7, zf_ic (-1), zf_inv h 15 0 8, zf_go 88], 87),
  (87, [zf_ic 0], 88),
  (88, [zf_reti], 89)]
theorem zT15_27 (h : Nat) : zTab h 15 27 10 (zt15_27 h) := zTab.mk (ret := (some .int)) (bl := xk15_27) (by decide +kernel) (by decide +kernel) rfl rfl
