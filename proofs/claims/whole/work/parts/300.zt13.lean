/-! TABLES of what methods of class 13 ask -/
def zt13_0 (h : Nat) : ZB := [(0, [zf_ald 0, zf_getR 13 6, zf_ild 1, zf_aldI 100, zf_ist 2, zf_ild 2, zf_ic 1, zf_ic2 .ne 72, zf_ald 0, zf_getR 13 12, zf_ald 0, zf_getI 13 11, zf_ild 1, zf_ic 2, zf_add, zf_astI, zf_ald 0, zf_getR 13 13, zf_ald 0, zf_getI 13 11, zf_ald 0, zf_getR 13 6, zf_ild 1, zf_ic 1, zf_add, zf_aldI 100, zf_astI, zf_ald 0, zf_getR 13 14, zf_ald 0, zf_getI 13 11, zf_ic 1, zf_astB, zf_ald 0, zf_ald 0, zf_getI 13 11, zf_inv h 13 1 1, zf_ald 0, zf_dup, zf_getI 13 11, zf_ic 1, zf_add, zf_putI 13 11, zf_go 170], 72),
  (72, [zf_ild 2, zf_ic 2, zf_ic2 .ne 92, zf_ald 0, zf_ald 0, zf_getR 13 6, zf_ild 1, zf_ic 1, zf_add, zf_aldI 100, zf_inv h 13 1 1, zf_go 170], 92),
  (92, [zf_ild 2, zf_ic 3, zf_ic2 .ne 130, zf_ald 0, zf_dup, zf_getI 13 15, zf_ic 1, zf_add, zf_putI 13 15, zf_ald 0, zf_getR 13 16, zf_ald 0, zf_getI 13 15, zf_ic 0, zf_astI, zf_ald 0, zf_getR 13 18, zf_ald 0, zf_getI 13 15, zf_ic 0, zf_astB, zf_go 170], 130),
  (130, [zf_ild 2, zf_ic 4, zf_ic2 .ne 166, zf_ald 0, zf_getR 13 18, zf_ald 0, zf_getR 13 6, zf_ild 1, zf_ic 1, zf_add, zf_aldI 100, zf_ic 1, zf_astB, zf_ald 0, zf_getR 13 16, zf_ald 0, zf_getR 13 6, zf_ild 1, zf_ic 1, zf_add, zf_aldI 100, zf_ic 0, zf_astI, zf_go 170], 166),
  (166, [zf_ald 0, zf_inv h 13 14 0], 170),
  (170, [zf_ret], 171)]
theorem zT13_0 (h : Nat) : zTab h 13 0 3 (zt13_0 h) := zTab.mk (ret := none) (bl := xk13_0) (by decide +kernel) (by decide +kernel) rfl rfl
def zt13_1 (h : Nat) : ZB := [(0, [zf_ald 0, zf_getR 13 17, zf_ic 8, zf_ald 0, zf_getI 13 15, zf_mul, zf_ald 0, zf_getR 13 16, zf_ald 0, zf_getI 13 15, zf_aldI 100, zf_add, zf_ild 1, zf_astI, zf_ald 0, zf_getR 13 16, zf_ald 0, zf_getI 13 15, zf_dup2, zf_aldI 100, zf_ic 1, zf_add, zf_astI, zf_ret], 37)]
theorem zT13_1 (h : Nat) : zTab h 13 1 2 (zt13_1 h) := zTab.mk (ret := none) (bl := xk13_1) (by decide +kernel) (by decide +kernel) rfl rfl
def zt13_2 (h : Nat) : ZB := [(0, [zf_ald 0, zf_ic 1, zf_inv h 13 8 1, zf_if .ne 10, zf_ic 0, zf_reti], 10),
  (10, [zf_ic 0, zf_ist 1], 12),
  (12, [zf_ild 1, zf_ald 0, zf_getI 13 11, zf_ic2 .ge 34, zf_ald 0, zf_ild 1, zf_inv h 13 6 1, zf_if .ne 34, zf_inc 1 1, zf_go 12], 34),
  (34, [zf_ild 1, zf_ald 0, zf_getI 13 11, zf_ic2 .ge 46, zf_ic 1, zf_go 47], 46),
  (46, [zf_ic 0], 47),
  (47, [zf_ist 2, zf_ild 2, zf_if .eq 56, zf_ic 2, zf_go 62], 56),
  (56, [zf_ic 2, zf_ald 0, zf_getI 13 3, zf_add], 62),
  (62, [zf_ist 3, zf_ald 0, zf_getR 13 16, zf_ald 0, zf_getI 13 15, zf_aldI 100, zf_ic 8, zf_ic2 .eq 102, zf_ild 2, zf_if .ne 90, zf_ald 0, zf_getI 13 11, zf_ic 24, zf_ic2 .eq 102], 90),
  (90, [zf_ald 0, zf_getI 13 5, zf_ild 3, zf_add, zf_ic 400, zf_ic2 .le 104], 102),
  (102, [zf_ic (-1), zf_reti], 104),
  (104, [zf_ald 0, zf_ild 2, zf_if .eq 113, zf_ic 2, zf_go 114], 113),
  (113, [zf_ic 1], 114),
  (114, [zf_inv h 13 18 1, zf_ald 0, zf_ild 2, zf_if .eq 126, zf_ild 1, zf_go 130], 126),
  (126, [zf_ald 0, zf_getI 13 3], 130),
  (130, [zf_inv h 13 18 1, zf_ic 0, zf_ist 4], 136),
  (136, [zf_ild 4, zf_ald 0, zf_getI 13 3, zf_ic2 .ge 166, zf_ild 2, zf_if .ne 166, zf_ald 0, zf_ald 0, zf_getR 13 4, zf_ild 4, zf_aldI 100, zf_inv h 13 18 1, zf_inc 4 1, zf_go 136], 166),
  (166, [zf_ald 0, zf_ic 0, zf_putI 13 3, zf_ild 1, zf_reti], 173)]
theorem zT13_2 (h : Nat) : zTab h 13 2 5 (zt13_2 h) := zTab.mk (ret := (some .int)) (bl := xk13_2) (by decide +kernel) (by decide +kernel) rfl rfl
def zt13_3 (h : Nat) : ZB := [(0, [zf_ald 0, zf_ic 2, zf_inv h 13 8 1, zf_if .ne 10, zf_ic 0, zf_retz], 10),
  (10, [zf_ald 0, zf_ild 1, zf_if .lt 27, zf_ild 1, zf_ald 0, zf_getI 13 5, zf_ic2 .gt 27, zf_ic 0, zf_go 28], 27),
  (27, [zf_ic 1], 28),
  (28, [zf_putI 13 0, zf_ald 0, zf_getI 13 0, zf_if .eq 40, zf_ic 0, zf_retz], 40),
  (40, [zf_ald 0, zf_getI 13 5, zf_ild 1, zf_ic2 .le 52, zf_ic 1, zf_go 53], 52),
  (52, [zf_ic 0], 53),
  (53, [zf_ist 2, zf_ald 0, zf_ild 1, zf_putI 13 5, zf_ald 0, zf_ic 0, zf_putI 13 3, zf_ald 0, zf_ic 0, zf_putI 13 7, zf_ic 0, zf_ist 3], 71),
  (71, [zf_ild 3, zf_ic 24, zf_ic2 .ge 90, zf_ald 0, zf_getR 13 10, zf_ild 3, zf_ic 0, zf_astB, zf_inc 3 1, zf_go 71], 90),
  (90, [zf_ald 0, zf_ic 1, zf_putZ 13 2, zf_ild 2, zf_retz], 97)]
theorem zT13_3 (h : Nat) : zTab h 13 3 4 (zt13_3 h) := zTab.mk (ret := (some .boolean)) (bl := xk13_3) (by decide +kernel) (by decide +kernel) rfl rfl
def zt13_4 (h : Nat) : ZB := [(0, [zf_ald 0, zf_ic 2, zf_inv h 13 8 1, zf_if .ne 10, zf_ic 0, zf_retz], 10),
  (10, [zf_ald 0, zf_ald 0, zf_ild 1, zf_inv h 13 9 1, zf_if .eq 23, zf_ic 0, zf_go 24], 23),
  (23, [zf_ic 1], 24),
  (24, [zf_putI 13 0, zf_ald 0, zf_getI 13 0, zf_if .ne 55, zf_ald 0, zf_getR 13 18, zf_ild 1, zf_aldB, zf_if .ne 55, zf_ald 0, zf_getI 13 5, zf_ic 2, zf_add, zf_ic 400, zf_ic2 .le 57], 55),
  (55, [zf_ic 0, zf_retz], 57),
  (57, [zf_ald 0, zf_ic 4, zf_inv h 13 18 1, zf_ald 0, zf_ild 1, zf_inv h 13 18 1, zf_ic 1, zf_retz], 69)]
theorem zT13_4 (h : Nat) : zTab h 13 4 2 (zt13_4 h) := zTab.mk (ret := (some .boolean)) (bl := xk13_4) (by decide +kernel) (by decide +kernel) rfl rfl
def zt13_6 (h : Nat) : ZB := [(0, [zf_ald 0, zf_getR 13 14, zf_ild 1, zf_aldB, zf_if .eq 26, zf_ald 0, zf_getR 13 13, zf_ild 1, zf_aldI 100, zf_ald 0, zf_getI 13 3, zf_ic2 .ne 26, zf_ic 1, zf_go 27], 26),
  (26, [zf_ic 0], 27),
  (27, [zf_ist 2, zf_ic 0, zf_ist 3], 30),
  (30, [zf_ild 3, zf_ald 0, zf_getI 13 3, zf_ic2 .ge 76, zf_ild 2, zf_if .eq 76, zf_ald 0, zf_getR 13 6, zf_ald 0, zf_getR 13 12, zf_ild 1, zf_aldI 100, zf_ild 3, zf_add, zf_aldI 100, zf_ald 0, zf_getR 13 4, zf_ild 3, zf_aldI 100, zf_ic2 .ne 68, zf_ic 1, zf_go 69], 68),
  (68, [zf_ic 0], 69),
  (69, [zf_ist 2, zf_inc 3 1, zf_go 30], 76),
  (76, [zf_ild 2, zf_retz], 78)]
theorem zT13_6 (h : Nat) : zTab h 13 6 4 (zt13_6 h) := zTab.mk (ret := (some .boolean)) (bl := xk13_6) (by decide +kernel) (by decide +kernel) rfl rfl
def zt13_7 (h : Nat) : ZB := [(0, [zf_ic 0, zf_ist 2, zf_ic 0, zf_ist 3], 4),
  (4, [zf_ild 3, zf_ald 0, zf_getI 13 15, zf_ic2 .gt 64, zf_ic 0, zf_ist 4], 15),
  (15, [zf_ild 4, zf_ald 0, zf_getR 13 16, zf_ild 3, zf_aldI 100, zf_ic2 .ge 58, zf_ild 2, zf_if .ne 46, zf_ald 0, zf_getR 13 17, zf_ic 8, zf_ild 3, zf_mul, zf_ild 4, zf_add, zf_aldI 100, zf_ild 1, zf_ic2 .ne 50], 46),
  (46, [zf_ic 1, zf_go 51], 50),
  (50, [zf_ic 0], 51),
  (51, [zf_ist 2, zf_inc 4 1, zf_go 15], 58),
  (58, [zf_inc 3 1, zf_go 4], 64),
  (64, [zf_ild 2, zf_retz], 66)]
theorem zT13_7 (h : Nat) : zTab h 13 7 5 (zt13_7 h) := zTab.mk (ret := (some .boolean)) (bl := xk13_7) (by decide +kernel) (by decide +kernel) rfl rfl
def zt13_8 (h : Nat) : ZB := [(0, [zf_ald 0, zf_ald 0, zf_getI 13 2, zf_if .eq 12, zf_ild 1, zf_go 13], 12),
  (12, [zf_ic 0], 13),
  (13, [zf_putI 13 0, zf_ald 0, zf_getI 13 2, zf_if .ne 27, zf_ald 0, zf_inv h 13 17 0], 27),
  (27, [zf_ald 0, zf_getI 13 2, zf_if .ne 38, zf_ic 1, zf_go 39], 38),
  (38, [zf_ic 0], 39),
  (39, [zf_retz], 40)]
theorem zT13_8 (h : Nat) : zTab h 13 8 2 (zt13_8 h) := zTab.mk (ret := (some .boolean)) (bl := xk13_8) (by decide +kernel) (by decide +kernel) rfl rfl
def zt13_9 (h : Nat) : ZB := [(0, [zf_ild 1, zf_if .lt 16, zf_ild 1, zf_ald 0, zf_getI 13 15, zf_ic2 .ge 16, zf_ic 1, zf_go 17], 16),
  (16, [zf_ic 0], 17),
  (17, [zf_retz], 18)]
theorem zT13_9 (h : Nat) : zTab h 13 9 2 (zt13_9 h) := zTab.mk (ret := (some .boolean)) (bl := xk13_9) (by decide +kernel) (by decide +kernel) rfl rfl
def zt13_10 (h : Nat) : ZB := [(0, [zf_ald 0, zf_ic 2, zf_inv h 13 8 1, zf_if .ne 10, zf_ic 0, zf_reti], 10),
  (10, [zf_ald 0, zf_ald 0, zf_ild 1, zf_inv h 13 9 1, zf_if .eq 27, zf_ild 2, zf_if .lt 27, zf_ic 0, zf_go 28], 27),
  (27, [zf_ic 1], 28),
  (28, [zf_putI 13 0, zf_ald 0, zf_getI 13 0, zf_if .eq 40, zf_ic 0, zf_reti], 40),
  (40, [zf_ild 2, zf_ist 3, zf_ic 0, zf_ist 4], 45),
  (45, [zf_ild 4, zf_ald 0, zf_getR 13 16, zf_ild 1, zf_aldI 100, zf_ic2 .ge 112, zf_ald 0, zf_getR 13 17, zf_ic 8, zf_ild 1, zf_mul, zf_ild 4, zf_add, zf_aldI 100, zf_ist 5, zf_ild 3, zf_ald 0, zf_getR 13 13, zf_ild 5, zf_aldI 100, zf_ic2 .ge 96, zf_ald 0, zf_getR 13 6, zf_ald 0, zf_getR 13 12, zf_ild 5, zf_aldI 100, zf_ild 3, zf_add, zf_aldI 100, zf_reti], 96),
  (96, [zf_ild 3, zf_ald 0, zf_getR 13 13, zf_ild 5, zf_aldI 100, zf_sub, zf_ist 3, zf_inc 4 1, zf_go 45], 112),
  (112, [zf_ic (-1), zf_reti], 114)]
theorem zT13_10 (h : Nat) : zTab h 13 10 6 (zt13_10 h) := zTab.mk (ret := (some .int)) (bl := xk13_10) (by decide +kernel) (by decide +kernel) rfl rfl
def zt13_11 (h : Nat) : ZB := [(0, [zf_ald 0, zf_ald 0, zf_getI 13 2, zf_if .eq 12, zf_ic 0, zf_go 13], 12),
  (12, [zf_ic 1], 13),
  (13, [zf_putI 13 0, zf_ald 0, zf_getI 13 2, zf_if .ne 25, zf_ic 0, zf_reti], 25),
  (25, [zf_ald 0, zf_ic 0, zf_putZ 13 2, zf_ald 0, zf_inv h 13 17 0, zf_ald 0, zf_ald 0, zf_getI 13 19, zf_putI 13 5, zf_ald 0, zf_getI 13 15, zf_reti], 47)]
theorem zT13_11 (h : Nat) : zTab h 13 11 1 (zt13_11 h) := zTab.mk (ret := (some .int)) (bl := xk13_11) (by decide +kernel) (by decide +kernel) rfl rfl
def zt13_12 (h : Nat) : ZB := [(0, [zf_ald 0, zf_getR 13 6, zf_ild 1, zf_aldI 100, zf_ist 2, zf_ild 2, zf_ic 1, zf_ic2 .ne 39, zf_ild 1, zf_ic 1, zf_add, zf_ald 0, zf_getI 13 5, zf_ic2 .ge 35, zf_ic 2, zf_ald 0, zf_getR 13 6, zf_ild 1, zf_ic 1, zf_add, zf_aldI 100, zf_add, zf_go 54], 35),
  (35, [zf_ic 2, zf_go 54], 39),
  (39, [zf_ild 2, zf_ic 2, zf_ic2 .eq 49, zf_ild 2, zf_ic 4, zf_ic2 .ne 53], 49),
  (49, [zf_ic 2, zf_go 54], 53),
  (53, [zf_ic 1], 54),
  (54, [zf_reti], 55)]
theorem zT13_12 (h : Nat) : zTab h 13 12 3 (zt13_12 h) := zTab.mk (ret := (some .int)) (bl := xk13_12) (by decide +kernel) (by decide +kernel) rfl rfl
def zt13_13 (h : Nat) : ZB := [(0, [zf_ald 0, zf_ic 1, zf_inv h 13 8 1, zf_if .eq 18, zf_ald 0, zf_getI 13 5, zf_ic 400, zf_ic2 .ne 20], 18),
  (18, [zf_ic 0, zf_reti], 20),
  (20, [zf_ald 0, zf_inv h 13 14 0, zf_ald 0, zf_getI 13 20, zf_ist 1, zf_ald 0, zf_ic 5, zf_inv h 13 18 1, zf_ild 1, zf_reti], 36)]
theorem zT13_13 (h : Nat) : zTab h 13 13 2 (zt13_13 h) := zTab.mk (ret := (some .int)) (bl := xk13_13) (by decide +kernel) (by decide +kernel) rfl rfl
def zt13_14 (h : Nat) : ZB := [(0, [zf_ald 0, zf_ic 0, zf_putI 13 20, zf_ic 0, zf_ist 1], 7),
  (7, [zf_ild 1, zf_ald 0, zf_getI 13 11, zf_ic2 .ge 58, zf_ald 0, zf_getR 13 14, zf_ild 1, zf_aldB, zf_if .eq 52, zf_ald 0, zf_ild 1, zf_inv h 13 7 1, zf_if .eq 35, zf_go 52], 35),
  (35, [zf_ald 0, zf_getR 13 14, zf_ild 1, zf_ic 0, zf_astB, zf_ald 0, zf_dup, zf_getI 13 20, zf_ic 1, zf_add, zf_putI 13 20], 52),
  (52, [zf_inc 1 1, zf_go 7], 58),
  (58, [zf_ret], 59)]
theorem zT13_14 (h : Nat) : zTab h 13 14 2 (zt13_14 h) := zTab.mk (ret := none) (bl := xk13_14) (by decide +kernel) (by decide +kernel) rfl rfl
def zt13_15 (h : Nat) : ZB := [(0, [zf_ald 0, zf_getI 13 0, zf_reti], 5)]
theorem zT13_15 (h : Nat) : zTab h 13 15 1 (zt13_15 h) := zTab.mk (ret := (some .int)) (bl := xk13_15) (by decide +kernel) (by decide +kernel) rfl rfl
def zt13_16 (h : Nat) : ZB := [(0, [zf_ald 0, zf_ic 1, zf_inv h 13 8 1, zf_if .ne 10, zf_ic 0, zf_reti], 10),
  (10, [zf_ald 0, zf_getI 13 15, zf_ic 12, zf_ic2 .eq 29, zf_ald 0, zf_getI 13 5, zf_ic 400, zf_ic2 .ne 31], 29),
  (29, [zf_ic (-1), zf_reti], 31),
  (31, [zf_ald 0, zf_ic 3, zf_inv h 13 18 1, zf_ald 0, zf_getI 13 15, zf_reti], 41)]
theorem zT13_16 (h : Nat) : zTab h 13 16 1 (zt13_16 h) := zTab.mk (ret := (some .int)) (bl := xk13_16) (by decide +kernel) (by decide +kernel) rfl rfl
def zt13_17 (h : Nat) : ZB := [(0, [zf_ald 0, zf_ic 0, zf_putI 13 11, zf_ald 0, zf_ic 0, zf_putI 13 15, zf_ald 0, zf_getR 13 16, zf_ic 0, zf_ic 0, zf_astI, zf_ald 0, zf_getR 13 18, zf_ic 0, zf_ic 0, zf_astB, zf_ald 0, zf_ic 0, zf_putI 13 19], 29),
  (29, [zf_ald 0, zf_getI 13 19, zf_ald 0, zf_getI 13 5, zf_ic2 .ge 88, zf_ald 0, zf_getI 13 19, zf_ald 0, zf_ald 0, zf_getI 13 19, zf_inv h 13 12 1, zf_add, zf_ald 0, zf_getI 13 5, zf_ic2 .gt 88, zf_ald 0, zf_ald 0, zf_getI 13 19, zf_inv h 13 0 1, zf_ald 0, zf_dup, zf_getI 13 19, zf_ald 0, zf_ald 0, zf_getI 13 19, zf_inv h 13 12 1, zf_add, zf_putI 13 19, zf_go 29], 88),
  (88, [zf_ret], 89)]
theorem zT13_17 (h : Nat) : zTab h 13 17 1 (zt13_17 h) := zTab.mk (ret := none) (bl := xk13_17) (by decide +kernel) (by decide +kernel) rfl rfl
def zt13_18 (h : Nat) : ZB := [(0, [zf_ald 0, zf_getR 13 6, zf_ald 0, zf_getI 13 5, zf_ild 1, zf_astI, zf_ald 0, zf_dup, zf_getI 13 5, zf_ic 1, zf_add, zf_putI 13 5, zf_ret], 21)]
theorem zT13_18 (h : Nat) : zTab h 13 18 2 (zt13_18 h) := zTab.mk (ret := none) (bl := xk13_18) (by decide +kernel) (by decide +kernel) rfl rfl
