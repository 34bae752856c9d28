/-! TABLES of what methods of class 3 ask -/
def zt3_0 (h : Nat) : ZB := [(0, [zf_ald 0, zf_getR 3 0, zf_ild 1, zf_ic 0, zf_inv h 2 21 2, zf_ist 3, zf_ald 0, zf_getR 3 0, zf_ild 1, zf_ic 1, zf_inv h 2 21 2, zf_ist 4, zf_ald 0, zf_getR 3 0, zf_ild 1, zf_ic 0, zf_rc 30, zf_inv h 2 25 3, zf_if .eq 64, zf_ald 0, zf_getR 3 5, zf_ild 2, zf_ild 3, zf_ild 4, zf_inst h 3 11 4, zf_if .ne 63, zf_ald 0, zf_getR 3 5, zf_ild 2, zf_ild 3, zf_ild 4, zf_ic 0, zf_ic 0, zf_inv h 7 0 5, zf_pop], 63),
  (63, [zf_ret], 64),
  (64, [zf_ald 0, zf_getR 3 0, zf_ild 1, zf_ic 0, zf_ic 0, zf_inv h 2 27 3, zf_ic 94, zf_ic2 .ne 83, zf_ic 1, zf_go 84], 83),
  (83, [zf_ic 0], 84),
  (84, [zf_ist 5, zf_ald 0, zf_ild 1, zf_ild 5, zf_if .eq 97, zf_ic 1, zf_go 98], 97),
  (97, [zf_ic 0], 98),
  (98, [zf_inv h 3 28 2, zf_ist 6, zf_ild 6, zf_ic (-1), zf_ic2 .ne 110, zf_ret], 110),
  (110, [zf_ald 0, zf_getR 3 6, zf_ild 2, zf_ild 3, zf_ild 4, zf_ild 6, zf_ic 0, zf_inv h 7 0 5, zf_ist 7, zf_ild 5, zf_if .eq 144, zf_ild 7, zf_ic (-1), zf_ic2 .eq 144, zf_ald 0, zf_ild 7, zf_ild 2, zf_inv h 3 2 2], 144),
  (144, [zf_ret], 145)]
theorem zT3_0 (h : Nat) : zTab h 3 0 8 (zt3_0 h) := zTab.mk (ret := none) (bl := xk3_0) (by decide +kernel) (by decide +kernel) rfl rfl
def zt3_1 (h : Nat) : ZB := [(0, [zf_ald 0, zf_ald 0, zf_getR 3 0, zf_ild 2, zf_inv h 2 20 1, zf_inv h 3 36 1, zf_ist 3, zf_ald 0, zf_ild 3, zf_inv h 3 14 1, zf_if .ne 22, zf_ret], 22),
  (22, [zf_ald 0, zf_getR 3 0, zf_ild 2, zf_ic 0, zf_inv h 2 18 2, zf_ald 0, zf_getR 3 0, zf_ild 1, zf_ic 0, zf_inv h 2 18 2, zf_ladd, zf_lst 4, zf_ald 0, zf_getR 3 0, zf_ild 2, zf_ic 1, zf_inv h 2 18 2, zf_ald 0, zf_getR 3 0, zf_ild 1, zf_ic 1, zf_inv h 2 18 2, zf_ladd, zf_lst 6, zf_lld 4, zf_labs, zf_lc 1000000000, zf_lcmp, zf_if .gt 92, zf_lld 6, zf_labs, zf_lc 1000000000, zf_lcmp, zf_if .gt 92, zf_ic 1, zf_go 93], 92),
  (92, [zf_ic 0], 93),
  (93, [zf_ist 8, zf_ic 0, zf_ist 9], 98),
  (98, [zf_ild 9, zf_ald 0, zf_getR 3 8, zf_getI 7 2, zf_ic2 .ge 176, zf_ild 8, zf_if .eq 176, zf_ald 0, zf_getR 3 8, zf_ild 9, zf_ic 3, zf_inv h 7 1 2, zf_ild 2, zf_ic2 .ne 163, zf_ald 0, zf_getR 3 8, zf_ild 9, zf_ic 1, zf_inv h 7 1 2, zf_i2l, zf_lld 4, zf_lcmp, zf_if .ne 163, zf_ald 0, zf_getR 3 8, zf_ild 9, zf_ic 2, zf_inv h 7 1 2, zf_i2l, zf_lld 6, zf_lcmp, zf_if .eq 167], 163),
  (163, [zf_ic 1, zf_go 168], 167),
  (167, [zf_ic 0], 168),
  (168, [zf_ist 8, zf_inc 9 1, zf_go 98], 176),
  (176, [zf_ild 8, zf_if .eq 198, zf_ald 0, zf_getR 3 8, zf_ild 3, zf_lld 4, zf_l2i, zf_lld 6, zf_l2i, zf_ild 2, zf_ic 0, zf_inv h 7 0 5, zf_pop], 198),
  (198, [zf_ret], 199)]
theorem zT3_1 (h : Nat) : zTab h 3 1 10 (zt3_1 h) := zTab.mk (ret := none) (bl := xk3_1) (by decide +kernel) (by decide +kernel) rfl rfl
def zt3_2 (h : Nat) : ZB := [(0, [zf_ic 0, zf_ist 3], 2),
  (2, [zf_ild 3, zf_ald 0, zf_ild 2, zf_inv h 3 5 1, zf_ic2 .ge 53, zf_ald 0, zf_ild 2, zf_ild 3, zf_inv h 3 37 2, zf_ist 4, zf_ald 0, zf_getR 3 2, zf_ild 4, zf_ic 1, zf_inv h 7 1 2, zf_ic (-1), zf_ic2 .eq 47, zf_ald 0, zf_getR 3 7, zf_ild 1, zf_ild 4, zf_ic 0, zf_ic 0, zf_ic 0, zf_inv h 7 0 5, zf_pop], 47),
  (47, [zf_inc 3 1, zf_go 2], 53),
  (53, [zf_ret], 54)]
theorem zT3_2 (h : Nat) : zTab h 3 2 5 (zt3_2 h) := zTab.mk (ret := none) (bl := xk3_2) (by decide +kernel) (by decide +kernel) rfl rfl
def zt3_3 (h : Nat) : ZB := [(0, [zf_ald 0, zf_getR 3 0, zf_ild 1, zf_ic 0, zf_inv h 2 21 2, zf_ist 3, zf_ald 0, zf_getR 3 0, zf_ild 1, zf_ic 1, zf_inv h 2 21 2, zf_ist 4, zf_ald 0, zf_getR 3 0, zf_ild 1, zf_ic 2, zf_inv h 2 21 2, zf_ist 5, zf_ald 0, zf_getR 3 0, zf_ild 1, zf_ic 3, zf_inv h 2 21 2, zf_ist 6, zf_ild 3, zf_ild 5, zf_ic2 .ne 56, zf_ild 4, zf_ild 6, zf_ic2 .eq 72], 56),
  (56, [zf_ald 0, zf_getR 3 4, zf_ild 2, zf_ild 3, zf_ild 4, zf_ild 5, zf_ild 6, zf_inv h 7 0 5, zf_pop], 72),
  (72, [zf_ret], 73)]
theorem zT3_3 (h : Nat) : zTab h 3 3 7 (zt3_3 h) := zTab.mk (ret := none) (bl := xk3_3) (by decide +kernel) (by decide +kernel) rfl rfl
def zt3_4 (h : Nat) : ZB := [(0, [zf_ald 0, zf_ic 0, zf_putI 3 13, zf_ic 0, zf_ist 1, zf_ic 0, zf_ist 2], 9),
  (9, [zf_ild 2, zf_ald 0, zf_getR 3 6, zf_getI 7 2, zf_ic2 .ge 100, zf_ic 0, zf_ist 3], 22),
  (22, [zf_ild 3, zf_ald 0, zf_ald 0, zf_getR 3 6, zf_ild 2, zf_ic 0, zf_inv h 7 1 2, zf_inv h 3 5 1, zf_ic2 .ge 94, zf_ald 0, zf_ild 2, zf_ild 3, zf_inst h 3 26 2, zf_inv h 3 35 1, zf_ist 4, zf_ild 4, zf_ic 960, zf_ic2 .ge 88, zf_ald 0, zf_getR 3 12, zf_ild 1, zf_ald 0, zf_getR 3 10, zf_ild 4, zf_aldI 100, zf_ic 1000, zf_mul, zf_ald 0, zf_getR 3 6, zf_ild 2, zf_ic 3, zf_inv h 7 1 2, zf_add, zf_astI, zf_inc 1 1], 88),
  (88, [zf_inc 3 1, zf_go 22], 94),
  (94, [zf_inc 2 1, zf_go 9], 100),
  (100, [zf_ald 0, zf_getR 3 12, zf_ild 1, zf_inst h 11 49 2, zf_ald 0, zf_ild 1, zf_inv h 3 38 1, zf_ic 0, zf_ist 2], 115),
  (115, [zf_ild 2, zf_ald 0, zf_getR 3 6, zf_getI 7 2, zf_ic2 .ge 163, zf_ald 0, zf_ild 2, zf_inv h 3 15 1, zf_if .eq 157, zf_ald 0, zf_getR 3 12, zf_ald 0, zf_getI 3 13, zf_ic 100000000, zf_ild 2, zf_add, zf_astI, zf_ald 0, zf_dup, zf_getI 3 13, zf_ic 1, zf_add, zf_putI 3 13], 157),
  (157, [zf_inc 2 1, zf_go 115], 163),
  (163, [zf_ret], 164)]
theorem zT3_4 (h : Nat) : zTab h 3 4 5 (zt3_4 h) := zTab.mk (ret := none) (bl := xk3_4) (by decide +kernel) (by decide +kernel) rfl rfl
def zt3_5 (h : Nat) : ZB := [(0, [zf_ald 0, zf_getR 3 2, zf_ild 1, zf_ic 4, zf_inv h 7 1 2, zf_reti], 10)]
theorem zT3_5 (h : Nat) : zTab h 3 5 2 (zt3_5 h) := zTab.mk (ret := (some .int)) (bl := xk3_5) (by decide +kernel) (by decide +kernel) rfl rfl
def zt3_6 (h : Nat) : ZB := [(0, [zf_ald 0, zf_ald 1, zf_putR 3 0, zf_ald 0, zf_dup, zf_getI 3 15, zf_ic 1, zf_add, zf_putI 3 15, zf_ald 0, zf_inv h 3 8 0, zf_ald 0, zf_inv h 3 9 0, zf_ald 0, zf_inv h 3 17 0, zf_ald 0, zf_inv h 3 32 0, zf_ald 0, zf_inv h 3 4 0, zf_ret], 36)]
theorem zT3_6 (h : Nat) : zTab h 3 6 2 (zt3_6 h) := zTab.mk (ret := none) (bl := xk3_6) (by decide +kernel) (by decide +kernel) rfl rfl
def zt3_7 (h : Nat) : ZB := [(0, [zf_ald 0, zf_getR 3 4, zf_ild 1, zf_ic 0, zf_inv h 7 1 2, zf_ild 2, zf_ic2 .ne 44, zf_ald 0, zf_getR 3 4, zf_ild 1, zf_ic 3, zf_inv h 7 1 2, zf_ild 3, zf_ic2 .ne 44, zf_ald 0, zf_getR 3 4, zf_ild 1, zf_ic 4, zf_inv h 7 1 2, zf_ild 4, zf_ic2 .ne 44, zf_ic 1, zf_go 45], 44),
  (44, [zf_ic 0], 45),
  (45, [zf_retz], 46)]
theorem zT3_7 (h : Nat) : zTab h 3 7 5 (zt3_7 h) := zTab.mk (ret := (some .boolean)) (bl := xk3_7) (by decide +kernel) (by decide +kernel) rfl rfl
def zt3_8 (h : Nat) : ZB := [(0, [zf_ald 0, zf_getR 3 2, zf_ic 0, zf_putI 7 2, zf_ic 0, zf_ist 1], 10),
  (10, [zf_ild 1, zf_ald 0, zf_getR 3 0, zf_getI 2 0, zf_ic2 .ge 103, zf_ald 0, zf_getR 3 1, zf_ild 1, zf_ic (-1), zf_astI, zf_ald 0, zf_getR 3 0, zf_ild 1, zf_inv h 2 16 1, zf_ic 1, zf_ic2 .ne 97, zf_ald 0, zf_getR 3 2, zf_inv h 7 2 0, zf_if .eq 97, zf_ald 0, zf_getR 3 2, zf_ild 1, zf_ald 0, zf_ald 0, zf_getR 3 0, zf_ild 1, zf_inv h 2 20 1, zf_inv h 3 36 1, zf_ic (-1), zf_ic 0, zf_ic 1, zf_inv h 7 0 5, zf_ist 2, zf_ald 0, zf_getR 3 1, zf_ild 1, zf_ild 2, zf_astI, zf_ald 0, zf_getR 3 3, zf_ild 2, zf_ic 16, zf_mul, zf_ild 2, zf_astI, zf_ald 0, zf_ild 2, zf_ild 1, zf_inv h 3 27 2], 97),
  (97, [zf_inc 1 1, zf_go 10], 103),
  (103, [zf_ret], 104)]
theorem zT3_8 (h : Nat) : zTab h 3 8 3 (zt3_8 h) := zTab.mk (ret := none) (bl := xk3_8) (by decide +kernel) (by decide +kernel) rfl rfl
def zt3_9 (h : Nat) : ZB := [(0, [zf_ald 0, zf_getR 3 4, zf_ic 0, zf_putI 7 2, zf_ald 0, zf_getR 3 5, zf_ic 0, zf_putI 7 2, zf_ald 0, zf_getR 3 6, zf_ic 0, zf_putI 7 2, zf_ald 0, zf_getR 3 7, zf_ic 0, zf_putI 7 2, zf_ald 0, zf_getR 3 8, zf_ic 0, zf_putI 7 2, zf_ic 0, zf_ist 1], 42),
  (42, [zf_ild 1, zf_ald 0, zf_getR 3 0, zf_getI 2 0, zf_ic2 .ge 157, zf_ald 0, zf_getR 3 0, zf_ild 1, zf_inv h 2 16 1, zf_ist 2, zf_ald 0, zf_getR 3 0, zf_ild 1, zf_inv h 2 20 1, zf_ist 3, zf_ild 2, zf_ic 7, zf_ic2 .ne 102, zf_ald 0, zf_ald 0, zf_ild 3, zf_inv h 3 36 1, zf_inv h 3 14 1, zf_if .eq 102, zf_ald 0, zf_ild 1, zf_ald 0, zf_ild 3, zf_inv h 3 36 1, zf_inv h 3 3 2, zf_go 151], 102),
  (102, [zf_ild 2, zf_ic 6, zf_ic2 .ne 133, zf_ald 0, zf_ald 0, zf_ild 3, zf_inv h 3 36 1, zf_inv h 3 14 1, zf_if .eq 133, zf_ald 0, zf_ild 1, zf_ald 0, zf_ild 3, zf_inv h 3 36 1, zf_inv h 3 0 2, zf_go 151], 133),
  (133, [zf_ild 2, zf_ic 4, zf_ic2 .ne 151, zf_ald 0, zf_ild 1, zf_ald 0, zf_getR 3 0, zf_ild 3, zf_inv h 2 20 1, zf_inv h 3 1 2], 151),
  (151, [zf_inc 1 1, zf_go 42], 157),
  (157, [zf_ret], 158)]
theorem zT3_9 (h : Nat) : zTab h 3 9 4 (zt3_9 h) := zTab.mk (ret := none) (bl := xk3_9) (by decide +kernel) (by decide +kernel) rfl rfl
def zt3_10 (h : Nat) : ZB := [(0, [zf_ald 0, zf_getR 3 4, zf_ild 1, zf_ic 0, zf_inv h 7 1 2, zf_ild 2, zf_ic2 .eq 15, zf_ic 0, zf_retz], 15),
  (15, [zf_ald 0, zf_getR 3 4, zf_ild 1, zf_ic 1, zf_inv h 7 1 2, zf_i2l, zf_lst 5, zf_ald 0, zf_getR 3 4, zf_ild 1, zf_ic 2, zf_inv h 7 1 2, zf_i2l, zf_lst 7, zf_ald 0, zf_getR 3 4, zf_ild 1, zf_ic 3, zf_inv h 7 1 2, zf_i2l, zf_lst 9, zf_ald 0, zf_getR 3 4, zf_ild 1, zf_ic 4, zf_inv h 7 1 2, zf_i2l, zf_lst 11, zf_ild 3, zf_i2l, zf_lld 5, zf_lld 9, zf_lmin, zf_lcmp, zf_if .lt 148, zf_ild 3, zf_i2l, zf_lld 5, zf_lld 9, zf_lmax, zf_lcmp, zf_if .gt 148, zf_ild 4, zf_i2l, zf_lld 7, zf_lld 11, zf_lmin, zf_lcmp, zf_if .lt 148, zf_ild 4, zf_i2l, zf_lld 7, zf_lld 11, zf_lmax, zf_lcmp, zf_if .gt 148, zf_lld 9, zf_lld 5, zf_lsub, zf_ild 4, zf_i2l, zf_lld 7, zf_lsub, zf_lmul, zf_lld 11, zf_lld 7, zf_lsub, zf_ild 3, zf_i2l, zf_lld 5, zf_lsub, zf_lmul, zf_lcmp, zf_if .ne 148, zf_ic 1, zf_go 149], 148),
  (148, [zf_ic 0], 149),
  (149, [zf_retz], 150)]
theorem zT3_10 (h : Nat) : zTab h 3 10 13 (zt3_10 h) := zTab.mk (ret := (some .boolean)) (bl := xk3_10) (by decide +kernel) (by decide +kernel) rfl rfl
def zt3_11 (h : Nat) : ZB := [(0, [zf_ic 0, zf_ist 4, zf_ic 0, zf_ist 5], 6),
  (6, [zf_ild 5, zf_ald 0, zf_getI 7 2, zf_ic2 .ge 37, zf_ild 4, zf_if .ne 37, zf_ald 0, zf_ild 5, zf_ild 1, zf_ild 2, zf_ild 3, zf_inst h 3 13 5, zf_ist 4, zf_inc 5 1, zf_go 6], 37),
  (37, [zf_ild 4, zf_retz], 40)]
theorem zT3_11 (h : Nat) : zTab h 3 11 6 (zt3_11 h) := zTab.mk (ret := (some .boolean)) (bl := xk3_11) (by decide +kernel) (by decide +kernel) rfl rfl
def zt3_13 (h : Nat) : ZB := [(0, [zf_ald 0, zf_ild 1, zf_ic 0, zf_inv h 7 1 2, zf_ild 2, zf_ic2 .ne 35, zf_ald 0, zf_ild 1, zf_ic 1, zf_inv h 7 1 2, zf_ild 3, zf_ic2 .ne 35, zf_ald 0, zf_ild 1, zf_ic 2, zf_inv h 7 1 2, zf_ild 4, zf_ic2 .ne 35, zf_ic 1, zf_go 36], 35),
  (35, [zf_ic 0], 36),
  (36, [zf_retz], 37)]
theorem zT3_13 (h : Nat) : zTab h 3 13 5 (zt3_13 h) := zTab.mk (ret := (some .boolean)) (bl := xk3_13) (by decide +kernel) (by decide +kernel) rfl rfl
def zt3_14 (h : Nat) : ZB := [(0, [zf_ild 1, zf_ic (-1), zf_ic2 .eq 22, zf_ald 0, zf_getR 3 2, zf_ild 1, zf_ic 2, zf_inv h 7 1 2, zf_ild 1, zf_ic2 .ne 22, zf_ic 1, zf_go 23], 22),
  (22, [zf_ic 0], 23),
  (23, [zf_retz], 24)]
theorem zT3_14 (h : Nat) : zTab h 3 14 2 (zt3_14 h) := zTab.mk (ret := (some .boolean)) (bl := xk3_14) (by decide +kernel) (by decide +kernel) rfl rfl
def zt3_15 (h : Nat) : ZB := [(0, [zf_ald 0, zf_getR 3 6, zf_ild 1, zf_ic 0, zf_inv h 7 1 2, zf_ist 2, zf_ald 0, zf_getR 3 6, zf_ild 1, zf_ic 1, zf_inv h 7 1 2, zf_ist 3, zf_ald 0, zf_getR 3 6, zf_ild 1, zf_ic 2, zf_inv h 7 1 2, zf_ist 4, zf_ald 0, zf_getR 3 8, zf_ild 2, zf_ild 3, zf_ild 4, zf_inst h 3 11 4, zf_if .ne 49, zf_ic 1, zf_go 50], 49),
  (49, [zf_ic 0], 50),
  (50, [zf_ist 5, zf_ic 0, zf_ist 6], 55),
  (55, [zf_ild 6, zf_ald 0, zf_getR 3 4, zf_getI 7 2, zf_ic2 .ge 98, zf_ild 5, zf_if .eq 98, zf_ald 0, zf_ild 6, zf_ild 2, zf_ild 3, zf_ild 4, zf_inv h 3 10 4, zf_if .ne 89, zf_ic 1, zf_go 90], 89),
  (89, [zf_ic 0], 90),
  (90, [zf_ist 5, zf_inc 6 1, zf_go 55], 98),
  (98, [zf_ild 5, zf_retz], 101)]
theorem zT3_15 (h : Nat) : zTab h 3 15 7 (zt3_15 h) := zTab.mk (ret := (some .boolean)) (bl := xk3_15) (by decide +kernel) (by decide +kernel) rfl rfl
def zt3_16 (h : Nat) : ZB := [(0, [zf_ald 0, zf_ild 1, zf_inv h 3 35 1, zf_ist 3, zf_ald 0, zf_ild 2, zf_inv h 3 35 1, zf_ist 4, zf_ald 0, zf_getR 3 9, zf_ild 3, zf_ild 4, zf_max, zf_ild 3, zf_ild 4, zf_min, zf_astI, zf_ret], 31)]
theorem zT3_16 (h : Nat) : zTab h 3 16 5 (zt3_16 h) := zTab.mk (ret := none) (bl := xk3_16) (by decide +kernel) (by decide +kernel) rfl rfl
def zt3_17 (h : Nat) : ZB := [(0, [zf_ic 0, zf_ist 1], 2),
  (2, [zf_ild 1, zf_ic 19520, zf_ic2 .ge 22, zf_ald 0, zf_getR 3 9, zf_ild 1, zf_ild 1, zf_astI, zf_inc 1 1, zf_go 2], 22),
  (22, [zf_ald 0, zf_inv h 3 25 0, zf_ic 0, zf_ist 1], 28),
  (28, [zf_ild 1, zf_ald 0, zf_getR 3 5, zf_getI 7 2, zf_ic2 .ge 50, zf_ald 0, zf_ild 1, zf_inv h 3 18 1, zf_inc 1 1, zf_go 28], 50),
  (50, [zf_ald 0, zf_ald 0, zf_getR 3 6, zf_ic 960, zf_inv h 3 23 2, zf_ald 0, zf_ald 0, zf_getR 3 8, zf_ic 0, zf_inv h 3 23 2, zf_ald 0, zf_ald 0, zf_getR 3 6, zf_ic 960, zf_ald 0, zf_getR 3 6, zf_ic 960, zf_inv h 3 22 4, zf_ald 0, zf_ald 0, zf_getR 3 6, zf_ic 960, zf_ald 0, zf_getR 3 8, zf_ic 0, zf_inv h 3 22 4, zf_ald 0, zf_ald 0, zf_getR 3 8, zf_ic 0, zf_ald 0, zf_getR 3 8, zf_ic 0, zf_inv h 3 22 4, zf_ald 0, zf_inv h 3 20 0, zf_ald 0, zf_inv h 3 21 0, zf_ret], 127)]
theorem zT3_17 (h : Nat) : zTab h 3 17 2 (zt3_17 h) := zTab.mk (ret := none) (bl := xk3_17) (by decide +kernel) (by decide +kernel) rfl rfl
def zt3_18 (h : Nat) : ZB := [(0, [zf_ic (-1), zf_ist 2, zf_ic 0, zf_ist 3], 4),
  (4, [zf_ild 3, zf_ald 0, zf_getR 3 4, zf_getI 7 2, zf_ic2 .ge 69, zf_ald 0, zf_ild 3, zf_ald 0, zf_getR 3 5, zf_ild 1, zf_ic 0, zf_inv h 7 1 2, zf_ald 0, zf_getR 3 5, zf_ild 1, zf_ic 1, zf_inv h 7 1 2, zf_ald 0, zf_getR 3 5, zf_ild 1, zf_ic 2, zf_inv h 7 1 2, zf_inv h 3 10 4, zf_if .eq 63, zf_ild 2, zf_ic (-1), zf_ic2 .ne 57, zf_ild 3, zf_ist 2], 57),
  (57, [zf_ald 0, zf_ild 2, zf_ild 3, zf_inv h 3 24 2], 63),
  (63, [zf_inc 3 1, zf_go 4], 69),
  (69, [zf_ret], 70)]
theorem zT3_18 (h : Nat) : zTab h 3 18 4 (zt3_18 h) := zTab.mk (ret := none) (bl := xk3_18) (by decide +kernel) (by decide +kernel) rfl rfl
def zt3_19 (h : Nat) : ZB := [(0, [zf_ic 0, zf_ist 4], 3),
  (3, [zf_ild 4, zf_ald 0, zf_ild 3, zf_inv h 3 5 1, zf_ic2 .ge 31, zf_ald 0, zf_ild 1, zf_ild 4, zf_add, zf_ild 2, zf_ild 4, zf_add, zf_inv h 3 16 2, zf_inc 4 1, zf_go 3], 31),
  (31, [zf_ret], 32)]
theorem zT3_19 (h : Nat) : zTab h 3 19 5 (zt3_19 h) := zTab.mk (ret := none) (bl := xk3_19) (by decide +kernel) (by decide +kernel) rfl rfl
def zt3_20 (h : Nat) : ZB := [(0, [zf_ic 0, zf_ist 1], 2),
  (2, [zf_ild 1, zf_ald 0, zf_getR 3 6, zf_getI 7 2, zf_ic2 .ge 73, zf_ald 0, zf_getR 3 6, zf_ild 1, zf_ic 0, zf_inv h 7 1 2, zf_ist 2, zf_ic 0, zf_ist 3], 25),
  (25, [zf_ild 3, zf_ald 0, zf_ild 2, zf_inv h 3 5 1, zf_ic2 .ge 67, zf_ald 0, zf_ild 1, zf_ild 3, zf_inst h 3 26 2, zf_ald 0, zf_ild 2, zf_ild 3, zf_inv h 3 37 2, zf_ald 0, zf_getR 3 6, zf_ild 1, zf_ic 3, zf_inv h 7 1 2, zf_inst h 3 29 2, zf_inv h 3 16 2, zf_inc 3 1, zf_go 25], 67),
  (67, [zf_inc 1 1, zf_go 2], 73),
  (73, [zf_ret], 74)]
theorem zT3_20 (h : Nat) : zTab h 3 20 4 (zt3_20 h) := zTab.mk (ret := none) (bl := xk3_20) (by decide +kernel) (by decide +kernel) rfl rfl
def zt3_21 (h : Nat) : ZB := [(0, [zf_ic 0, zf_ist 1], 2),
  (2, [zf_ild 1, zf_ald 0, zf_getR 3 7, zf_getI 7 2, zf_ic2 .ge 81, zf_ald 0, zf_getR 3 7, zf_ild 1, zf_ic 0, zf_inv h 7 1 2, zf_ist 2, zf_ald 0, zf_getR 3 7, zf_ild 1, zf_ic 1, zf_inv h 7 1 2, zf_ist 3, zf_ald 0, zf_getR 3 2, zf_ild 3, zf_ic 1, zf_inv h 7 1 2, zf_ist 4, zf_ald 0, zf_ild 2, zf_ald 0, zf_getR 3 2, zf_ild 3, zf_ic 3, zf_inv h 7 1 2, zf_inst h 3 26 2, zf_ild 4, zf_ald 0, zf_getR 3 6, zf_ild 2, zf_ic 3, zf_inv h 7 1 2, zf_inst h 3 29 2, zf_inv h 3 16 2, zf_inc 1 1, zf_go 2], 81),
  (81, [zf_ret], 82)]
theorem zT3_21 (h : Nat) : zTab h 3 21 5 (zt3_21 h) := zTab.mk (ret := none) (bl := xk3_21) (by decide +kernel) (by decide +kernel) rfl rfl
def zt3_22 (h : Nat) : ZB := [(0, [zf_ic 0, zf_ist 5], 3),
  (3, [zf_ild 5, zf_ald 1, zf_getI 7 2, zf_ic2 .ge 92, zf_ic 0, zf_ist 6], 15),
  (15, [zf_ild 6, zf_ald 3, zf_getI 7 2, zf_ic2 .ge 86, zf_ald 3, zf_ild 6, zf_ald 1, zf_ild 5, zf_ic 0, zf_inv h 7 1 2, zf_ald 1, zf_ild 5, zf_ic 1, zf_inv h 7 1 2, zf_ald 1, zf_ild 5, zf_ic 2, zf_inv h 7 1 2, zf_inst h 3 13 5, zf_if .eq 80, zf_ald 0, zf_ild 2, zf_ild 5, zf_ic 16, zf_mul, zf_add, zf_ild 4, zf_ild 6, zf_ic 16, zf_mul, zf_add, zf_ald 1, zf_ild 5, zf_ic 0, zf_inv h 7 1 2, zf_inv h 3 19 3], 80),
  (80, [zf_inc 6 1, zf_go 15], 86),
  (86, [zf_inc 5 1, zf_go 3], 92),
  (92, [zf_ret], 93)]
theorem zT3_22 (h : Nat) : zTab h 3 22 7 (zt3_22 h) := zTab.mk (ret := none) (bl := xk3_22) (by decide +kernel) (by decide +kernel) rfl rfl
def zt3_23 (h : Nat) : ZB := [(0, [zf_ic 0, zf_ist 3], 2),
  (2, [zf_ild 3, zf_ald 1, zf_getI 7 2, zf_ic2 .ge 89, zf_ic 0, zf_ist 4], 13),
  (13, [zf_ild 4, zf_ald 0, zf_getR 3 4, zf_getI 7 2, zf_ic2 .ge 83, zf_ald 0, zf_ild 4, zf_ald 1, zf_ild 3, zf_ic 0, zf_inv h 7 1 2, zf_ald 1, zf_ild 3, zf_ic 1, zf_inv h 7 1 2, zf_ald 1, zf_ild 3, zf_ic 2, zf_inv h 7 1 2, zf_inv h 3 10 4, zf_if .eq 77, zf_ald 0, zf_ild 2, zf_ild 3, zf_ic 16, zf_mul, zf_add, zf_ic 1920, zf_ild 4, zf_ic 16, zf_mul, zf_add, zf_ald 1, zf_ild 3, zf_ic 0, zf_inv h 7 1 2, zf_inv h 3 19 3], 77),
  (77, [zf_inc 4 1, zf_go 13], 83),
  (83, [zf_inc 3 1, zf_go 2], 89),
  (89, [zf_ret], 90)]
theorem zT3_23 (h : Nat) : zTab h 3 23 5 (zt3_23 h) := zTab.mk (ret := none) (bl := xk3_23) (by decide +kernel) (by decide +kernel) rfl rfl
def zt3_24 (h : Nat) : ZB := [(0, [zf_ald 0, zf_ic 1920, zf_ild 1, zf_ic 16, zf_mul, zf_add, zf_ic 1920, zf_ild 2, zf_ic 16, zf_mul, zf_add, zf_ald 0, zf_getR 3 4, zf_ild 1, zf_ic 0, zf_inv h 7 1 2, zf_inv h 3 19 3, zf_ret], 30)]
theorem zT3_24 (h : Nat) : zTab h 3 24 3 (zt3_24 h) := zTab.mk (ret := none) (bl := xk3_24) (by decide +kernel) (by decide +kernel) rfl rfl
def zt3_25 (h : Nat) : ZB := [(0, [zf_ic 0, zf_ist 1], 2),
  (2, [zf_ild 1, zf_ald 0, zf_getR 3 4, zf_getI 7 2, zf_ic2 .ge 202, zf_ild 1, zf_ic 1, zf_add, zf_ist 2], 17),
  (17, [zf_ild 2, zf_ald 0, zf_getR 3 4, zf_getI 7 2, zf_ic2 .ge 196, zf_ald 0, zf_getR 3 4, zf_ild 2, zf_ald 0, zf_getR 3 4, zf_ild 1, zf_ic 0, zf_inv h 7 1 2, zf_ald 0, zf_getR 3 4, zf_ild 1, zf_ic 1, zf_inv h 7 1 2, zf_ald 0, zf_getR 3 4, zf_ild 1, zf_ic 2, zf_inv h 7 1 2, zf_inst h 3 13 5, zf_if .ne 174, zf_ald 0, zf_getR 3 4, zf_ild 2, zf_ald 0, zf_getR 3 4, zf_ild 1, zf_ic 0, zf_inv h 7 1 2, zf_ald 0, zf_getR 3 4, zf_ild 1, zf_ic 3, zf_inv h 7 1 2, zf_ald 0, zf_getR 3 4, zf_ild 1, zf_ic 4, zf_inv h 7 1 2, zf_inst h 3 13 5, zf_if .ne 174, zf_ald 0, zf_ild 2, zf_ald 0, zf_getR 3 4, zf_ild 1, zf_ic 0, zf_inv h 7 1 2, zf_ald 0, zf_getR 3 4, zf_ild 1, zf_ic 1, zf_inv h 7 1 2, zf_ald 0, zf_getR 3 4, zf_ild 1, zf_ic 2, zf_inv h 7 1 2, zf_inv h 3 7 4, zf_if .ne 174, zf_ald 0, zf_ild 2, zf_ald 0, zf_getR 3 4, zf_ild 1, zf_ic 0, zf_inv h 7 1 2, zf_ald 0, zf_getR 3 4, zf_ild 1, zf_ic 3, zf_inv h 7 1 2, zf_ald 0, zf_getR 3 4, zf_ild 1, zf_ic 4, zf_inv h 7 1 2, zf_inv h 3 7 4, zf_if .eq 178], 174),
  (174, [zf_ic 1, zf_go 179], 178),
  (178, [zf_ic 0], 179),
  (179, [zf_ist 3, zf_ild 3, zf_if .eq 190, zf_ald 0, zf_ild 1, zf_ild 2, zf_inv h 3 24 2], 190),
  (190, [zf_inc 2 1, zf_go 17], 196),
  (196, [zf_inc 1 1, zf_go 2], 202),
  (202, [zf_ret], 203)]
theorem zT3_25 (h : Nat) : zTab h 3 25 4 (zt3_25 h) := zTab.mk (ret := none) (bl := xk3_25) (by decide +kernel) (by decide +kernel) rfl rfl
def zt3_26 (h : Nat) : ZB := [(0, [zf_ic 960, zf_ild 0, zf_ic 16, zf_mul, zf_add, zf_ild 1, zf_add, zf_reti], 11)]
theorem zT3_26 (h : Nat) : zTab h 3 26 2 (zt3_26 h) := zTab.mk (ret := (some .int)) (bl := xk3_26) (by decide +kernel) (by decide +kernel) rfl rfl
def zt3_27 (h : Nat) : ZB := [(0, [zf_ald 0, zf_ild 1, zf_ild 2, zf_inv h 3 33 2, zf_ist 3, zf_ald 0, zf_getR 3 2, zf_ild 1, zf_ic 2, zf_ild 3, zf_ic (-1), zf_ic2 .ne 22, zf_ild 1, zf_go 23], 22),
  (22, [zf_ild 3], 23),
  (23, [zf_inv h 7 4 3, zf_ild 3, zf_ic (-1), zf_ic2 .eq 75, zf_ald 0, zf_ild 3, zf_inv h 3 5 1, zf_ist 4, zf_ald 0, zf_getR 3 3, zf_ild 3, zf_ic 16, zf_mul, zf_ild 4, zf_add, zf_ild 1, zf_astI, zf_ald 0, zf_getR 3 2, zf_ild 3, zf_ic 4, zf_ild 4, zf_ic 1, zf_add, zf_inv h 7 4 3, zf_ald 0, zf_getR 3 2, zf_ild 1, zf_ic 3, zf_ild 4, zf_inv h 7 4 3], 75),
  (75, [zf_ret], 76)]
theorem zT3_27 (h : Nat) : zTab h 3 27 5 (zt3_27 h) := zTab.mk (ret := none) (bl := xk3_27) (by decide +kernel) (by decide +kernel) rfl rfl
def zt3_28 (h : Nat) : ZB := [(0, [zf_ald 0, zf_getR 3 0, zf_ild 1, zf_ic 0, zf_inv h 2 26 2, zf_ist 3, zf_ild 3, zf_ild 2, zf_sub, zf_ic 1, zf_ic2 .lt 24, zf_ild 3, zf_ild 2, zf_sub, zf_ic 3, zf_ic2 .le 26], 24),
  (24, [zf_ic (-1), zf_reti], 26),
  (26, [zf_ic 0, zf_ist 4, zf_ild 2, zf_ist 5], 32),
  (32, [zf_ild 5, zf_ild 3, zf_ic2 .ge 94, zf_ild 4, zf_ic (-1), zf_ic2 .eq 94, zf_ald 0, zf_getR 3 0, zf_ild 1, zf_ic 0, zf_ild 5, zf_inv h 2 27 3, zf_ist 6, zf_ild 6, zf_ic 48, zf_ic2 .lt 85, zf_ild 6, zf_ic 57, zf_ic2 .gt 85, zf_ild 4, zf_ic 10, zf_mul, zf_ild 6, zf_add, zf_ic 48, zf_sub, zf_go 86], 85),
  (85, [zf_ic (-1)], 86),
  (86, [zf_ist 4, zf_inc 5 1, zf_go 32], 94),
  (94, [zf_ild 4, zf_reti], 97)]
theorem zT3_28 (h : Nat) : zTab h 3 28 7 (zt3_28 h) := zTab.mk (ret := (some .int)) (bl := xk3_28) (by decide +kernel) (by decide +kernel) rfl rfl
def zt3_29 (h : Nat) : ZB := [(0, [zf_ic 3520, zf_ild 1, zf_ic 900, zf_ic2 .lt 14, zf_ic 0, zf_go 19], 14),
  (14, [zf_ild 0, zf_ic 1000, zf_mul], 19),
  (19, [zf_add, zf_ild 1, zf_add, zf_reti], 23)]
theorem zT3_29 (h : Nat) : zTab h 3 29 2 (zt3_29 h) := zTab.mk (ret := (some .int)) (bl := xk3_29) (by decide +kernel) (by decide +kernel) rfl rfl
def zt3_30 (h : Nat) : ZB := [(0, [zf_ild 1, zf_if .lt 21, zf_ild 1, zf_ald 0, zf_getI 3 14, zf_ic2 .ge 21, zf_ald 0, zf_getR 3 11, zf_ild 1, zf_aldI 100, zf_go 24], 21),
  (21, [zf_ic (-1000)], 24),
  (24, [zf_reti], 25)]
theorem zT3_30 (h : Nat) : zTab h 3 30 2 (zt3_30 h) := zTab.mk (ret := (some .int)) (bl := xk3_30) (by decide +kernel) (by decide +kernel) rfl rfl
def zt3_31 (h : Nat) : ZB := [(0, [zf_ild 1, zf_if .lt 19, zf_ild 1, zf_ald 0, zf_getR 3 8, zf_getI 7 2, zf_ic2 .ge 19, zf_ic 1, zf_go 20], 19),
  (19, [zf_ic 0], 20),
  (20, [zf_ist 3, zf_ild 3, zf_if .eq 60, zf_ild 2, zf_if .lt 60, zf_ild 2, zf_ald 0, zf_ald 0, zf_getR 3 8, zf_ild 1, zf_ic 0, zf_inv h 7 1 2, zf_inv h 3 5 1, zf_ic2 .ge 60, zf_ald 0, zf_getR 3 10, zf_ild 1, zf_ic 16, zf_mul, zf_ild 2, zf_add, zf_aldI 100, zf_go 61], 60),
  (60, [zf_ic (-1)], 61),
  (61, [zf_reti], 62)]
theorem zT3_31 (h : Nat) : zTab h 3 31 4 (zt3_31 h) := zTab.mk (ret := (some .int)) (bl := xk3_31) (by decide +kernel) (by decide +kernel) rfl rfl
def zt3_32 (h : Nat) : ZB := [(0, [zf_ald 0, zf_ic 0, zf_putI 3 14, zf_ic 0, zf_ist 1], 7),
  (7, [zf_ild 1, zf_ald 0, zf_getR 3 8, zf_getI 7 2, zf_ic2 .ge 117, zf_ic 0, zf_ist 2], 20),
  (20, [zf_ild 2, zf_ald 0, zf_ald 0, zf_getR 3 8, zf_ild 1, zf_ic 0, zf_inv h 7 1 2, zf_inv h 3 5 1, zf_ic2 .ge 111, zf_ild 1, zf_ic 16, zf_mul, zf_ild 2, zf_add, zf_ist 3, zf_ald 0, zf_ild 3, zf_inv h 3 35 1, zf_ist 4, zf_ild 4, zf_ild 3, zf_ic2 .ne 92, zf_ald 0, zf_getR 3 11, zf_ald 0, zf_getI 3 14, zf_ic (-1), zf_ild 1, zf_sub, zf_astI, zf_ald 0, zf_getR 3 10, zf_ild 3, zf_ald 0, zf_getI 3 14, zf_astI, zf_ald 0, zf_dup, zf_getI 3 14, zf_ic 1, zf_add, zf_putI 3 14, zf_go 105], 92),
  (92, [zf_ald 0, zf_getR 3 10, zf_ild 3, zf_ald 0, zf_getR 3 10, zf_ild 4, zf_aldI 100, zf_astI], 105),
  (105, [zf_inc 2 1, zf_go 20], 111),
  (111, [zf_inc 1 1, zf_go 7], 117),
  (117, [zf_ret], 118)]
theorem zT3_32 (h : Nat) : zTab h 3 32 5 (zt3_32 h) := zTab.mk (ret := none) (bl := xk3_32) (by decide +kernel) (by decide +kernel) rfl rfl
def zt3_33 (h : Nat) : ZB := [(0, [zf_ic (-1), zf_ist 3, zf_ild 2, zf_ic 1, zf_add, zf_ist 4], 7),
  (7, [zf_ild 4, zf_ald 0, zf_getR 3 0, zf_getI 2 0, zf_ic2 .ge 91, zf_ild 3, zf_ic (-1), zf_ic2 .ne 91, zf_ald 0, zf_getR 3 0, zf_ild 4, zf_inv h 2 20 1, zf_ild 2, zf_ic2 .ne 55, zf_ald 0, zf_getR 3 0, zf_ild 4, zf_inv h 2 16 1, zf_ic 8, zf_ic2 .ne 55, zf_ic 1, zf_go 56], 55),
  (55, [zf_ic 0], 56),
  (56, [zf_ist 5, zf_ild 5, zf_if .eq 83, zf_ald 0, zf_getR 3 0, zf_ild 4, zf_ic 0, zf_rc 29, zf_inv h 2 25 3, zf_if .eq 83, zf_ild 4, zf_go 84], 83),
  (83, [zf_ic (-1)], 84),
  (84, [zf_ist 3, zf_inc 4 1, zf_go 7], 91),
  (91, [zf_ic 0, zf_ist 4], 94),
  (94, [zf_ild 4, zf_ild 1, zf_ic2 .ge 146, zf_ild 3, zf_ic (-1), zf_ic2 .eq 146, zf_ald 0, zf_ild 4, zf_inv h 3 14 1, zf_if .eq 140, zf_ald 0, zf_getR 3 0, zf_ild 3, zf_ic 1, zf_ald 0, zf_getR 3 2, zf_ild 4, zf_ic 0, zf_inv h 7 1 2, zf_ic 0, zf_inv h 2 22 4, zf_if .eq 140, zf_ild 4, zf_reti], 140),
  (140, [zf_inc 4 1, zf_go 94], 146),
  (146, [zf_ic (-1), zf_reti], 148)]
theorem zT3_33 (h : Nat) : zTab h 3 33 6 (zt3_33 h) := zTab.mk (ret := (some .int)) (bl := xk3_33) (by decide +kernel) (by decide +kernel) rfl rfl
def zt3_34 (h : Nat) : ZB := [(0, [zf_ild 1, zf_if .lt 21, zf_ild 1, zf_ald 0, zf_getI 3 13, zf_ic2 .ge 21, zf_ald 0, zf_getR 3 12, zf_ild 1, zf_aldI 100, zf_go 22], 21),
  (21, [zf_ic (-1)], 22),
  (22, [zf_reti], 23)]
theorem zT3_34 (h : Nat) : zTab h 3 34 2 (zt3_34 h) := zTab.mk (ret := (some .int)) (bl := xk3_34) (by decide +kernel) (by decide +kernel) rfl rfl
def zt3_35 (h : Nat) : ZB := [(0, [zf_ild 1, zf_ist 2, zf_ic 0, zf_ist 3], 4),
  (4, [zf_ild 3, zf_ic 19520, zf_ic2 .ge 51, zf_ald 0, zf_getR 3 9, zf_ild 2, zf_aldI 100, zf_ild 2, zf_ic2 .eq 51, zf_ald 0, zf_getR 3 9, zf_ild 2, zf_ald 0, zf_getR 3 9, zf_ald 0, zf_getR 3 9, zf_ild 2, zf_aldI 100, zf_aldI 100, zf_astI, zf_ald 0, zf_getR 3 9, zf_ild 2, zf_aldI 100, zf_ist 2, zf_inc 3 1, zf_go 4], 51),
  (51, [zf_ild 2, zf_reti], 53)]
theorem zT3_35 (h : Nat) : zTab h 3 35 4 (zt3_35 h) := zTab.mk (ret := (some .int)) (bl := xk3_35) (by decide +kernel) (by decide +kernel) rfl rfl
def zt3_36 (h : Nat) : ZB := [(0, [zf_ild 1, zf_if .lt 24, zf_ild 1, zf_ald 0, zf_getR 3 0, zf_getI 2 0, zf_ic2 .ge 24, zf_ald 0, zf_getR 3 1, zf_ild 1, zf_aldI 100, zf_go 25], 24),
  (24, [zf_ic (-1)], 25),
  (25, [zf_reti], 26)]
theorem zT3_36 (h : Nat) : zTab h 3 36 2 (zt3_36 h) := zTab.mk (ret := (some .int)) (bl := xk3_36) (by decide +kernel) (by decide +kernel) rfl rfl
def zt3_37 (h : Nat) : ZB := [(0, [zf_ald 0, zf_getR 3 3, zf_ild 1, zf_ic 16, zf_mul, zf_ild 2, zf_add, zf_aldI 100, zf_reti], 12)]
theorem zT3_37 (h : Nat) : zTab h 3 37 3 (zt3_37 h) := zTab.mk (ret := (some .int)) (bl := xk3_37) (by decide +kernel) (by decide +kernel) rfl rfl
def zt3_38 (h : Nat) : ZB := [(0, [zf_ic (-1), zf_ist 2, zf_ic 0, zf_ist 3], 4),
  (4, [zf_ild 3, zf_ild 1, zf_ic2 .ge 87, zf_ald 0, zf_getR 3 12, zf_ild 3, zf_aldI 100, zf_ist 4, zf_ild 4, zf_ic 1000, zf_div, zf_ist 5, zf_ald 0, zf_getR 3 11, zf_ild 5, zf_aldI 100, zf_if .ge 51, zf_ald 0, zf_getR 3 11, zf_ild 5, zf_ild 4, zf_ic 1000, zf_rem, zf_astI, zf_go 78], 51),
  (51, [zf_ild 4, zf_ild 2, zf_ic2 .eq 78, zf_ald 0, zf_getR 3 12, zf_ald 0, zf_getI 3 13, zf_ild 4, zf_astI, zf_ald 0, zf_dup, zf_getI 3 13, zf_ic 1, zf_add, zf_putI 3 13], 78),
  (78, [zf_ild 4, zf_ist 2, zf_inc 3 1, zf_go 4], 87),
  (87, [zf_ret], 88)]
theorem zT3_38 (h : Nat) : zTab h 3 38 6 (zt3_38 h) := zTab.mk (ret := none) (bl := xk3_38) (by decide +kernel) (by decide +kernel) rfl rfl
