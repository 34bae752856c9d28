/-! TABLES of what methods of class 21 ask -/
def zt21_0 (h : Nat) : ZB := [(0, [zf_ald 0, zf_getR 21 31, zf_nnl 9, zf_ic (-1), zf_reti], 9),
  (9, [zf_ald 0, zf_getR 21 31, zf_ild 1, zf_ild 2, zf_ild 3, zf_inv h 15 15 3, zf_ist 4, zf_ald 0, zf_getR 21 31, zf_inv h 15 25 0, zf_if .ne 36, zf_ild 4, zf_go 37], 36),
  (36, [zf_ic (-1)], 37),
  (37, [zf_reti], 38)]
theorem zT21_0 (h : Nat) : zTab h 21 0 5 (zt21_0 h) := zTab.mk (ret := (some .int)) (bl := xk21_0) (by decide +kernel) (by decide +kernel) rfl rfl
def zt21_1 (h : Nat) : ZB := [(0, [zf_ald 0, zf_getR 21 50, zf_ild 1, zf_ild 2, zf_ild 3, zf_inv h 19 0 3, zf_ist 4, zf_ald 0, zf_getR 21 50, zf_inv h 19 33 0, zf_if .ne 31, zf_ald 0, zf_ild 4, zf_inv h 21 12 1, zf_go 36], 31),
  (31, [zf_ald 0, zf_ic 2, zf_inv h 21 47 1], 36),
  (36, [zf_reti], 37)]
theorem zT21_1 (h : Nat) : zTab h 21 1 5 (zt21_1 h) := zTab.mk (ret := (some .int)) (bl := xk21_1) (by decide +kernel) (by decide +kernel) rfl rfl
def zt21_2 (h : Nat) : ZB := [(0, [zf_ald 0, zf_ald 0, zf_getR 21 12, zf_nnl 12, zf_ic 3, zf_go 31], 12),
  (12, [zf_ald 0, zf_getR 21 12, zf_ild 1, zf_ild 2, zf_ild 3, zf_inv h 17 4 3, zf_ic (-1), zf_ic2 .ne 30, zf_ic 2, zf_go 31], 30),
  (30, [zf_ic 0], 31),
  (31, [zf_inv h 21 48 1, zf_if .eq 39, zf_ic 0, zf_retz], 39),
  (39, [zf_ald 0, zf_ald 0, zf_getR 21 12, zf_ild 1, zf_ild 2, zf_ild 3, zf_inv h 17 1 3, zf_if .eq 57, zf_ic 0, zf_go 58], 57),
  (57, [zf_ic 4], 58),
  (58, [zf_inv h 21 48 1, zf_if .ne 68, zf_ic 1, zf_go 69], 68),
  (68, [zf_ic 0], 69),
  (69, [zf_retz], 70)]
theorem zT21_2 (h : Nat) : zTab h 21 2 4 (zt21_2 h) := zTab.mk (ret := (some .boolean)) (bl := xk21_2) (by decide +kernel) (by decide +kernel) rfl rfl
def zt21_3 (h : Nat) : ZB := [(0, [zf_ald 0, zf_getR 21 12, zf_nnl 9, zf_ic (-1), zf_reti], 9),
  (9, [zf_ald 0, zf_getR 21 12, zf_ild 1, zf_ild 2, zf_inv h 17 2 2, zf_ist 3, zf_ald 0, zf_getR 21 12, zf_inv h 17 32 0, zf_if .ne 33, zf_ild 3, zf_go 34], 33),
  (33, [zf_ic (-1)], 34),
  (34, [zf_reti], 35)]
theorem zT21_3 (h : Nat) : zTab h 21 3 4 (zt21_3 h) := zTab.mk (ret := (some .int)) (bl := xk21_3) (by decide +kernel) (by decide +kernel) rfl rfl
def zt21_4 (h : Nat) : ZB := [(0, [zf_ald 0, zf_getR 21 7, zf_nnl 13, zf_ald 0, zf_ic 3, zf_inv h 21 47 1, zf_reti], 13),
  (13, [zf_ald 0, zf_getI 21 14, zf_ic 6, zf_ic2 .ne 28, zf_ald 0, zf_ic 1, zf_inv h 21 47 1, zf_reti], 28),
  (28, [zf_ald 0, zf_new 17 25, zf_dup, zf_ild 1, zf_ild 2, zf_ild 3, zf_lld 4, zf_ins h 17 11 4, zf_putR 21 12, zf_ald 0, zf_ald 0, zf_getR 21 7, zf_putR 21 13, zf_ald 0, zf_ic 0, zf_putI 21 15, zf_ald 0, zf_ic 0, zf_putI 21 22, zf_ald 0, zf_dup, zf_getI 21 14, zf_ic 1, zf_add, zf_putI 21 14, zf_ald 0, zf_ald 0, zf_getI 21 14, zf_ic 1, zf_sub, zf_inv h 21 12 1, zf_reti], 83)]
theorem zT21_4 (h : Nat) : zTab h 21 4 6 (zt21_4 h) := zTab.mk (ret := (some .int)) (bl := xk21_4) (by decide +kernel) (by decide +kernel) rfl rfl
def zt21_5 (h : Nat) : ZB := [(0, [zf_ald 0, zf_getR 21 50, zf_ild 1, zf_ild 2, zf_inv h 19 17 2, zf_if .ne 14, zf_ic (-1), zf_reti], 14),
  (14, [zf_ic 8, zf_ild 1, zf_mul, zf_ild 2, zf_add, zf_ist 5, zf_ald 0, zf_getR 21 50, zf_inv h 19 6 0, zf_ald 0, zf_getR 21 50, zf_ild 1, zf_inv h 19 4 1, zf_if .eq 112, zf_ald 0, zf_getR 21 50, zf_ald 0, zf_getR 21 50, zf_getR 19 10, zf_ild 5, zf_aldI 100, zf_ic 256, zf_div, zf_inv h 19 4 1, zf_if .eq 112, zf_ald 0, zf_getR 21 50, zf_ald 0, zf_getR 21 50, zf_getR 19 10, zf_ild 5, zf_aldI 100, zf_ic 256, zf_rem, zf_inv h 19 4 1, zf_if .eq 112, zf_ald 0, zf_getR 21 50, zf_ald 0, zf_getR 21 50, zf_getR 19 11, zf_ild 5, zf_aldI 100, zf_inv h 19 4 1, zf_if .eq 112, zf_ic 1, zf_go 113], 112),
  (112, [zf_ic 0], 113),
  (113, [zf_ist 6, zf_ic 0, zf_ist 7], 118),
  (118, [zf_ild 7, zf_ald 0, zf_getR 21 50, zf_getR 19 11, zf_ild 5, zf_aldI 100, zf_ic2 .ge 164, zf_ald 0, zf_getR 21 50, zf_ald 0, zf_getR 21 50, zf_getR 19 12, zf_ic 64, zf_ild 5, zf_mul, zf_ild 7, zf_add, zf_aldI 100, zf_inv h 19 4 1, zf_ist 6, zf_inc 7 1, zf_go 118], 164),
  (164, [zf_ic 0, zf_ist 7], 167),
  (167, [zf_ald 0, zf_getR 21 50, zf_ild 1, zf_ild 2, zf_ild 7, zf_inv h 19 24 3, zf_ic (-1), zf_ic2 .eq 208, zf_ald 0, zf_getR 21 50, zf_ald 0, zf_getR 21 50, zf_ild 1, zf_ild 2, zf_ild 7, zf_inv h 19 24 3, zf_inv h 19 4 1, zf_ist 6, zf_inc 7 1, zf_go 167], 208),
  (208, [zf_ild 3, zf_ic (-1), zf_ic2 .lt 224, zf_ild 3, zf_ald 0, zf_getR 21 50, zf_getI 19 17, zf_ic2 .lt 226], 224),
  (224, [zf_ic (-1), zf_reti], 226),
  (226, [zf_ild 3, zf_ic (-1), zf_ic2 .eq 243, zf_ald 0, zf_getR 21 50, zf_ild 3, zf_ild 4, zf_inv h 19 23 2, zf_ist 6], 243),
  (243, [zf_ald 0, zf_getR 21 50, zf_inv h 19 5 0, zf_reti], 251)]
theorem zT21_5 (h : Nat) : zTab h 21 5 8 (zt21_5 h) := zTab.mk (ret := (some .int)) (bl := xk21_5) (by decide +kernel) (by decide +kernel) rfl rfl
def zt21_6 (h : Nat) : ZB := [(0, [zf_ald 0, zf_getR 21 31, zf_nnl 9, zf_ic (-1), zf_reti], 9),
  (9, [zf_ald 0, zf_getR 21 31, zf_ild 1, zf_inv h 15 16 1, zf_ist 2, zf_ald 0, zf_getR 21 31, zf_inv h 15 25 0, zf_if .ne 32, zf_ild 2, zf_go 33], 32),
  (32, [zf_ic (-1)], 33),
  (33, [zf_reti], 34)]
theorem zT21_6 (h : Nat) : zTab h 21 6 3 (zt21_6 h) := zTab.mk (ret := (some .int)) (bl := xk21_6) (by decide +kernel) (by decide +kernel) rfl rfl
def zt21_7 (h : Nat) : ZB := [(0, [zf_ald 0, zf_ald 0, zf_getR 21 12, zf_nnl 12, zf_ic 3, zf_go 13], 12),
  (12, [zf_ic 0], 13),
  (13, [zf_inv h 21 48 1, zf_if .eq 21, zf_ic 0, zf_retz], 21),
  (21, [zf_ald 0, zf_getR 21 12, zf_ild 1, zf_ild 2, zf_ild 3, zf_ild 4, zf_inv h 17 6 4, zf_ist 5, zf_ald 0, zf_ald 0, zf_getR 21 12, zf_inv h 17 32 0, zf_if .ne 50, zf_ic 0, zf_go 51], 50),
  (50, [zf_ic 2], 51),
  (51, [zf_inv h 21 48 1, zf_if .ne 61, zf_ic 1, zf_go 62], 61),
  (61, [zf_ic 0], 62),
  (62, [zf_retz], 63)]
theorem zT21_7 (h : Nat) : zTab h 21 7 6 (zt21_7 h) := zTab.mk (ret := (some .boolean)) (bl := xk21_7) (by decide +kernel) (by decide +kernel) rfl rfl
def zt21_8 (h : Nat) : ZB := [(0, [zf_ald 0, zf_getR 21 12, zf_nnl 11, zf_lc (-1), zf_retl], 11),
  (11, [zf_ald 0, zf_getR 21 12, zf_ild 1, zf_inv h 17 7 1, zf_lst 2, zf_ald 0, zf_getR 21 12, zf_inv h 17 32 0, zf_if .ne 34, zf_lld 2, zf_go 37], 34),
  (34, [zf_lc (-1)], 37),
  (37, [zf_retl], 38)]
theorem zT21_8 (h : Nat) : zTab h 21 8 4 (zt21_8 h) := zTab.mk (ret := (some .long)) (bl := xk21_8) (by decide +kernel) (by decide +kernel) rfl rfl
def zt21_9 (h : Nat) : ZB := [(0, [zf_ald 0, zf_ald 0, zf_getR 21 48, zf_getI 13 2, zf_if .eq 15, zf_ic 3, zf_go 48], 15),
  (15, [zf_ild 1, zf_if .lt 30, zf_ild 1, zf_ald 0, zf_getR 21 48, zf_getI 13 5, zf_ic2 .le 34], 30),
  (30, [zf_ic 2, zf_go 48], 34),
  (34, [zf_ald 0, zf_getI 21 49, zf_ic 16, zf_ic2 .ne 47, zf_ic 1, zf_go 48], 47),
  (47, [zf_ic 0], 48),
  (48, [zf_inv h 21 48 1, zf_if .eq 56, zf_ic 0, zf_retz], 56),
  (56, [zf_ald 0, zf_dup, zf_getI 21 49, zf_ic 1, zf_add, zf_putI 21 49, zf_ald 0, zf_getR 21 48, zf_ild 1, zf_inv h 13 3 1, zf_ist 2, zf_ic 1, zf_retz], 77)]
theorem zT21_9 (h : Nat) : zTab h 21 9 3 (zt21_9 h) := zTab.mk (ret := (some .boolean)) (bl := xk21_9) (by decide +kernel) (by decide +kernel) rfl rfl
def zt21_10 (h : Nat) : ZB := [(0, [zf_ald 0, zf_getR 21 12, zf_nnl 13, zf_ald 0, zf_ic 3, zf_inv h 21 47 1, zf_reti], 13),
  (13, [zf_ald 0, zf_getI 21 29, zf_ic 10, zf_ic2 .ne 28, zf_ald 0, zf_ic 1, zf_inv h 21 47 1, zf_reti], 28),
  (28, [zf_ald 0, zf_ic 0, zf_inv h 21 24 1, zf_ald 0, zf_getI 21 42, zf_ic 60, zf_ic2 .le 48, zf_ald 0, zf_ic 1, zf_inv h 21 47 1, zf_reti], 48),
  (48, [zf_ald 0, zf_dup, zf_getI 21 29, zf_ic 1, zf_add, zf_putI 21 29, zf_ald 0, zf_ald 0, zf_getI 21 14, zf_putI 21 30, zf_ald 0, zf_new 15 19, zf_dup, zf_ald 0, zf_getR 21 12, zf_getI 17 3, zf_ins h 15 7 1, zf_putR 21 31, zf_ald 0, zf_new 14 25, zf_dup, zf_ald 0, zf_getR 21 12, zf_getI 17 3, zf_ins h 14 9 1, zf_putR 21 32, zf_ald 0, zf_new 16 39, zf_dup, zf_ins h 16 9 0, zf_putR 21 43, zf_ald 0, zf_getR 21 43, zf_lc 300, zf_ic 1, zf_inv h 16 29 2, zf_ist 1, zf_ald 0, zf_ic 0, zf_putI 21 35, zf_ald 0, zf_ic 1, zf_inv h 21 24 1, zf_ic 0, zf_ist 2], 137),
  (137, [zf_ild 2, zf_ald 0, zf_getI 21 35, zf_ic2 .ge 166, zf_ald 0, zf_getR 21 39, zf_ild 2, zf_ald 0, zf_getR 21 43, zf_ic 0, zf_ild 2, zf_inv h 16 18 2, zf_astI, zf_inc 2 1, zf_go 137], 166),
  (166, [zf_ic 0, zf_ist 2], 168),
  (168, [zf_ild 2, zf_ald 0, zf_getI 21 24, zf_ic2 .ge 236, zf_ald 0, zf_getR 21 32, zf_ald 0, zf_getR 21 25, zf_ild 2, zf_aldI 100, zf_ic 3, zf_ic2 .ge 199, zf_ald 0, zf_getR 21 25, zf_ild 2, zf_aldI 100, zf_go 207], 199),
  (199, [zf_ald 0, zf_getR 21 25, zf_ild 2, zf_aldI 100, zf_ic 1, zf_add], 207),
  (207, [zf_ald 0, zf_getR 21 26, zf_ild 2, zf_aldI 100, zf_ald 0, zf_getR 21 27, zf_ild 2, zf_aldI 100, zf_ald 0, zf_getR 21 28, zf_ild 2, zf_aldI 100, zf_i2l, zf_inv h 14 29 4, zf_ist 1, zf_inc 2 1, zf_go 168], 236),
  (236, [zf_ald 0, zf_ald 0, zf_getR 21 32, zf_ic 1, zf_lc 0, zf_inv h 14 31 2, zf_putI 21 33, zf_ald 0, zf_ald 0, zf_getR 21 12, zf_ic 0, zf_inv h 17 22 1, zf_ic (-1), zf_ic2 .ne 283, zf_ald 0, zf_getR 21 31, zf_inv h 15 24 0, zf_if .ne 283, zf_ald 0, zf_getI 21 33, zf_if .ne 283, zf_ic 1, zf_go 284], 283),
  (283, [zf_ic 0], 284),
  (284, [zf_putZ 21 34, zf_ic 0, zf_ist 2], 289),
  (289, [zf_ild 2, zf_ald 0, zf_getI 21 22, zf_ic2 .ge 330, zf_ald 0, zf_ald 0, zf_getI 21 34, zf_if .eq 320, zf_ald 0, zf_getR 21 31, zf_ild 2, zf_inv h 15 19 1, zf_if .ne 320, zf_ic 1, zf_go 321], 320),
  (320, [zf_ic 0], 321),
  (321, [zf_putZ 21 34, zf_inc 2 1, zf_go 289], 330),
  (330, [zf_ald 0, zf_ald 0, zf_getI 21 42, zf_inv h 21 12 1, zf_reti], 339)]
theorem zT21_10 (h : Nat) : zTab h 21 10 3 (zt21_10 h) := zTab.mk (ret := (some .int)) (bl := xk21_10) (by decide +kernel) (by decide +kernel) rfl rfl
def zt21_11 (h : Nat) : ZB := [(0, [zf_ald 0, zf_getR 21 47, zf_ild 1, zf_inv h 12 2 1, zf_reti], 9)]
theorem zT21_11 (h : Nat) : zTab h 21 11 2 (zt21_11 h) := zTab.mk (ret := (some .int)) (bl := xk21_11) (by decide +kernel) (by decide +kernel) rfl rfl
def zt21_12 (h : Nat) : ZB := [(0, [zf_ald 0, zf_ic 0, zf_putI 21 0, zf_ild 1, zf_reti], 7)]
theorem zT21_12 (h : Nat) : zTab h 21 12 2 (zt21_12 h) := zTab.mk (ret := (some .int)) (bl := xk21_12) (by decide +kernel) (by decide +kernel) rfl rfl
def zt21_13 (h : Nat) : ZB := [(0, [zf_ald 0, zf_ic 0, zf_putI 21 11, zf_ic 0, zf_ist 2], 7),
  (7, [zf_ild 2, zf_ald 1, zf_getI 20 4, zf_ic2 .ge 28, zf_ald 0, zf_getR 21 8, zf_ild 2, zf_ic (-1), zf_astI, zf_inc 2 1, zf_go 7], 28),
  (28, [zf_ic 0, zf_ist 2], 30),
  (30, [zf_ild 2, zf_ald 1, zf_getI 20 4, zf_ic2 .ge 185, zf_ald 1, zf_ild 2, zf_inv h 20 20 1, zf_ic 1, zf_ic2 .ne 179, zf_ald 0, zf_getI 21 11, zf_ic 16, zf_ic2 .ne 59, zf_go 179], 59),
  (59, [zf_ald 1, zf_ild 2, zf_inv h 20 29 1, zf_ist 3, zf_ald 1, zf_ild 3, zf_inv h 20 20 1, zf_ic 1, zf_ic2 .ne 78, zf_ic 1, zf_go 79], 78),
  (78, [zf_ic 0], 79),
  (79, [zf_ist 4, zf_ild 4, zf_if .eq 99, zf_ald 0, zf_getR 21 8, zf_ild 3, zf_aldI 100, zf_ic (-1), zf_ic2 .ne 99, zf_go 179], 99),
  (99, [zf_ald 0, zf_getR 21 10, zf_ald 0, zf_getI 21 11, zf_ild 4, zf_if .eq 121, zf_ald 0, zf_getR 21 8, zf_ild 3, zf_aldI 100, zf_go 122], 121),
  (121, [zf_ic (-1)], 122),
  (122, [zf_astI, zf_ald 0, zf_getR 21 9, zf_ald 0, zf_getI 21 11, zf_ald 0, zf_ald 1, zf_ild 2, zf_inv h 21 52 2, zf_astI, zf_ald 0, zf_getR 21 8, zf_ild 2, zf_ald 0, zf_getR 21 7, zf_ald 0, zf_getR 21 10, zf_ald 0, zf_getI 21 11, zf_aldI 100, zf_ald 0, zf_getR 21 9, zf_ald 0, zf_getI 21 11, zf_aldI 100, zf_inv h 18 32 2, zf_astI, zf_ald 0, zf_dup, zf_getI 21 11, zf_ic 1, zf_add, zf_putI 21 11], 179),
  (179, [zf_inc 2 1, zf_go 30], 185),
  (185, [zf_ic 1, zf_ist 2], 187),
  (187, [zf_ild 2, zf_ald 1, zf_getI 20 4, zf_ic2 .ge 280, zf_ald 1, zf_ild 2, zf_inv h 20 29 1, zf_ist 3, zf_ald 1, zf_ild 2, zf_inv h 20 20 1, zf_ist 4, zf_ild 4, zf_ic 7, zf_ic2 .ne 235, zf_ald 0, zf_ild 3, zf_inv h 21 31 1, zf_if .eq 235, zf_ald 0, zf_ald 1, zf_ild 2, zf_ald 0, zf_getR 21 8, zf_ild 3, zf_aldI 100, zf_inv h 21 78 3], 235),
  (235, [zf_ild 4, zf_ic 6, zf_ic2 .ne 262, zf_ald 0, zf_ild 3, zf_inv h 21 31 1, zf_if .eq 262, zf_ald 0, zf_ald 1, zf_ild 2, zf_ald 0, zf_getR 21 8, zf_ild 3, zf_aldI 100, zf_inv h 21 40 3], 262),
  (262, [zf_ild 4, zf_ic 4, zf_ic2 .ne 274, zf_ald 0, zf_ald 1, zf_ild 2, zf_inv h 21 73 2], 274),
  (274, [zf_inc 2 1, zf_go 187], 280),
  (280, [zf_ret], 281)]
theorem zT21_13 (h : Nat) : zTab h 21 13 5 (zt21_13 h) := zTab.mk (ret := none) (bl := xk21_13) (by decide +kernel) (by decide +kernel) rfl rfl
def zt21_14 (h : Nat) : ZB := [(0, [zf_ald 0, zf_getR 21 31, zf_nul 21, zf_ild 1, zf_if .lt 21, zf_ild 1, zf_ic 6, zf_ic2 .gt 21, zf_ild 2, zf_if .ge 23], 21),
  (21, [zf_ic (-1), zf_reti], 23),
  (23, [zf_ald 0, zf_ild 2, zf_putI 21 44, zf_ald 0, zf_ic (-1), zf_putI 21 46, zf_ald 0, zf_ild 1, zf_inv h 21 65 1, zf_ald 0, zf_getI 21 46, zf_reti], 43)]
theorem zT21_14 (h : Nat) : zTab h 21 14 3 (zt21_14 h) := zTab.mk (ret := (some .int)) (bl := xk21_14) (by decide +kernel) (by decide +kernel) rfl rfl
def zt21_15 (h : Nat) : ZB := [(0, [zf_ald 0, zf_ald 0, zf_getR 21 48, zf_getI 13 2, zf_if .eq 15, zf_ic 3, zf_go 16], 15),
  (15, [zf_ic 0], 16),
  (16, [zf_inv h 21 48 1, zf_if .eq 24, zf_ic 0, zf_retz], 24),
  (24, [zf_ald 0, zf_getR 21 48, zf_inv h 13 17 0, zf_ald 0, zf_ald 0, zf_getR 21 48, zf_ild 1, zf_inv h 13 9 1, zf_if .ne 47, zf_ic 2, zf_go 64], 47),
  (47, [zf_ald 0, zf_getR 21 48, zf_getR 13 18, zf_ild 1, zf_aldB, zf_if .eq 63, zf_ic 4, zf_go 64], 63),
  (63, [zf_ic 0], 64),
  (64, [zf_inv h 21 48 1, zf_if .eq 72, zf_ic 0, zf_retz], 72),
  (72, [zf_ald 0, zf_ald 0, zf_getR 21 48, zf_ild 1, zf_inv h 13 4 1, zf_if .eq 88, zf_ic 0, zf_go 89], 88),
  (88, [zf_ic 1], 89),
  (89, [zf_inv h 21 48 1, zf_if .ne 99, zf_ic 1, zf_go 100], 99),
  (99, [zf_ic 0], 100),
  (100, [zf_retz], 101)]
theorem zT21_15 (h : Nat) : zTab h 21 15 2 (zt21_15 h) := zTab.mk (ret := (some .boolean)) (bl := xk21_15) (by decide +kernel) (by decide +kernel) rfl rfl
def zt21_16 (h : Nat) : ZB := [(0, [zf_ald 0, zf_ild 1, zf_if .lt 13, zf_ild 1, zf_ald 0, zf_getI 21 2, zf_ic2 .le 17], 13),
  (13, [zf_ic 2, zf_go 18], 17),
  (17, [zf_ic 0], 18),
  (18, [zf_inv h 21 48 1, zf_if .eq 26, zf_ic 0, zf_retz], 26),
  (26, [zf_ald 0, zf_ild 1, zf_putI 21 2, zf_ic 1, zf_retz], 33)]
theorem zT21_16 (h : Nat) : zTab h 21 16 2 (zt21_16 h) := zTab.mk (ret := (some .boolean)) (bl := xk21_16) (by decide +kernel) (by decide +kernel) rfl rfl
def zt21_17 (h : Nat) : ZB := [(0, [zf_ald 0, zf_getR 21 47, zf_ild 1, zf_inv h 12 15 1, zf_ist 2, zf_ald 0, zf_getR 21 47, zf_inv h 12 53 0, zf_if .ne 23, zf_ild 2, zf_go 24], 23),
  (23, [zf_ic (-1)], 24),
  (24, [zf_reti], 25)]
theorem zT21_17 (h : Nat) : zTab h 21 17 3 (zt21_17 h) := zTab.mk (ret := (some .int)) (bl := xk21_17) (by decide +kernel) (by decide +kernel) rfl rfl
def zt21_18 (h : Nat) : ZB := [(0, [zf_ald 0, zf_getR 21 31, zf_nul 18, zf_ald 0, zf_getI 21 34, zf_if .eq 18, zf_ic 1, zf_go 19], 18),
  (18, [zf_ic 0], 19),
  (19, [zf_retz], 20)]
theorem zT21_18 (h : Nat) : zTab h 21 18 1 (zt21_18 h) := zTab.mk (ret := (some .boolean)) (bl := xk21_18) (by decide +kernel) (by decide +kernel) rfl rfl
def zt21_19 (h : Nat) : ZB := [(0, [zf_ild 1, zf_ald 0, zf_getI 21 22, zf_ic2 .lt 12, zf_lc (-1), zf_retl], 12),
  (12, [zf_ild 2, zf_sw 100 0 4 [48, 56, 63, 81, 90]], 48),
  (48, [zf_ald 0, zf_getR 21 23, zf_ild 1, zf_aldI 100, zf_i2l, zf_retl], 56),
  (56, [zf_ald 0, zf_ild 1, zf_inv h 21 43 1, zf_i2l, zf_retl], 63),
  (63, [zf_ald 0, zf_getR 21 12, zf_getR 17 15, zf_ild 1, zf_aldB, zf_if .eq 79, zf_lc 1, zf_go 80], 79),
  (79, [zf_lc 0], 80),
  (80, [zf_retl], 81),
  (81, [zf_ald 0, zf_getR 21 12, zf_ild 1, zf_inv h 17 7 1, zf_retl], 90),
  (90, [zf_ald 0, zf_getR 21 12, zf_ild 1, zf_inv h 17 27 1, zf_i2l, zf_retl], 100),
  (100, [zf_ald 0, zf_getR 21 31, zf_nul 130, zf_ald 0, zf_getI 21 30, zf_ald 0, zf_getI 21 14, zf_ic2 .ne 130, zf_ald 0, zf_getR 21 31, zf_ild 1, zf_inv h 15 19 1, zf_i2l, zf_go 133], 130),
  (130, [zf_lc (-1)], 133),
  (133, [zf_retl], 134)]
theorem zT21_19 (h : Nat) : zTab h 21 19 3 (zt21_19 h) := zTab.mk (ret := (some .long)) (bl := xk21_19) (by decide +kernel) (by decide +kernel) rfl rfl
def zt21_20 (h : Nat) : ZB := [(0, [zf_ald 0, zf_ald 0, zf_getR 21 12, zf_nnl 12, zf_ic 3, zf_go 13], 12),
  (12, [zf_ic 0], 13),
  (13, [zf_inv h 21 48 1, zf_if .eq 21, zf_ic 0, zf_retz], 21),
  (21, [zf_ald 0, zf_getR 21 47, zf_ic 0, zf_putI 12 28, zf_ic 0, zf_ist 1], 31),
  (31, [zf_ild 1, zf_ic 12, zf_ic2 .ge 88, zf_ald 0, zf_getR 21 47, zf_ic 0, zf_inv h 12 32 1, zf_ist 2, zf_ic 0, zf_ist 3, zf_ic 0, zf_ist 4], 51),
  (51, [zf_ild 4, zf_ic 6, zf_ic2 .ge 82, zf_ald 0, zf_getR 21 47, zf_ild 2, zf_ild 4, zf_ald 0, zf_ild 1, zf_ild 4, zf_inv h 21 19 2, zf_inv h 12 17 3, zf_ist 3, zf_inc 4 1, zf_go 51], 82),
  (82, [zf_inc 1 1, zf_go 31], 88),
  (88, [zf_ic 1, zf_retz], 90)]
theorem zT21_20 (h : Nat) : zTab h 21 20 5 (zt21_20 h) := zTab.mk (ret := (some .boolean)) (bl := xk21_20) (by decide +kernel) (by decide +kernel) rfl rfl
def zt21_21 (h : Nat) : ZB := [(0, [zf_ald 0, zf_ald 0, zf_getI 21 2, zf_ic 20, zf_add, zf_ic 4000, zf_ic2 .le 18, zf_ic 1, zf_go 19], 18),
  (18, [zf_ic 0], 19),
  (19, [zf_inv h 21 48 1, zf_if .eq 27, zf_ic 0, zf_retz], 27),
  (27, [zf_ald 0, zf_ild 1, zf_inv h 21 34 1, zf_ald 0, zf_ild 2, zf_inv h 21 34 1, zf_ald 0, zf_ild 3, zf_inv h 21 34 1, zf_ald 0, zf_ild 4, zf_inv h 21 34 1, zf_ald 0, zf_ild 5, zf_inv h 21 34 1, zf_ic 1, zf_retz], 56)]
theorem zT21_21 (h : Nat) : zTab h 21 21 6 (zt21_21 h) := zTab.mk (ret := (some .boolean)) (bl := xk21_21) (by decide +kernel) (by decide +kernel) rfl rfl
def zt21_22 (h : Nat) : ZB := [(0, [zf_ald 0, zf_getR 21 48, zf_ic 0, zf_putI 13 3, zf_ic 0, zf_ist 2], 10),
  (10, [zf_ild 2, zf_ald 0, zf_getI 21 15, zf_ic2 .ge 150, zf_ald 0, zf_getR 21 21, zf_ild 2, zf_aldI 100, zf_ild 1, zf_ic2 .eq 31, zf_go 144], 31),
  (31, [zf_ald 0, zf_getR 21 48, zf_getR 13 4, zf_ald 0, zf_getR 21 48, zf_getI 13 3, zf_ald 0, zf_getR 21 16, zf_ild 2, zf_aldI 100, zf_astI, zf_ald 0, zf_getR 21 48, zf_getR 13 4, zf_ald 0, zf_getR 21 48, zf_getI 13 3, zf_ic 1, zf_add, zf_ald 0, zf_getR 21 17, zf_ild 2, zf_aldI 100, zf_astI, zf_ald 0, zf_getR 21 48, zf_getR 13 4, zf_ald 0, zf_getR 21 48, zf_getI 13 3, zf_ic 2, zf_add, zf_ald 0, zf_getR 21 18, zf_ild 2, zf_aldI 100, zf_astI, zf_ald 0, zf_getR 21 48, zf_getR 13 4, zf_ald 0, zf_getR 21 48, zf_getI 13 3, zf_ic 3, zf_add, zf_ic 16, zf_ald 0, zf_getR 21 20, zf_ild 2, zf_aldI 100, zf_mul, zf_ald 0, zf_getR 21 19, zf_ild 2, zf_aldI 100, zf_add, zf_astI, zf_ald 0, zf_getR 21 48, zf_dup, zf_getI 13 3, zf_ic 4, zf_add, zf_putI 13 3], 144),
  (144, [zf_inc 2 1, zf_go 10], 150),
  (150, [zf_ret], 151)]
theorem zT21_22 (h : Nat) : zTab h 21 22 3 (zt21_22 h) := zTab.mk (ret := none) (bl := xk21_22) (by decide +kernel) (by decide +kernel) rfl rfl
def zt21_23 (h : Nat) : ZB := [(0, [zf_ic 0, zf_ist 2], 2),
  (2, [zf_ild 2, zf_ald 0, zf_getI 20 4, zf_ic2 .ge 81, zf_ald 0, zf_ild 2, zf_inv h 20 20 1, zf_ic 8, zf_ic2 .ne 43, zf_ald 0, zf_ild 2, zf_inv h 20 29 1, zf_ild 1, zf_ic2 .ne 43, zf_ald 0, zf_ild 2, zf_ic 0, zf_inst h 21 35 3, zf_ic 2, zf_ic2 .ne 43, zf_ic 1, zf_go 44], 43),
  (43, [zf_ic 0], 44),
  (44, [zf_ist 3, zf_ild 3, zf_if .eq 75, zf_ald 0, zf_ild 2, zf_ic 0, zf_ic 0, zf_inv h 20 50 3, zf_ic 111, zf_ic2 .ne 75, zf_ald 0, zf_ild 2, zf_ic 0, zf_ic 1, zf_inv h 20 50 3, zf_ic 102, zf_ic2 .ne 75, zf_ild 2, zf_reti], 75),
  (75, [zf_inc 2 1, zf_go 2], 81),
  (81, [zf_ic (-1), zf_reti], 83)]
theorem zT21_23 (h : Nat) : zTab h 21 23 4 (zt21_23 h) := zTab.mk (ret := (some .int)) (bl := xk21_23) (by decide +kernel) (by decide +kernel) rfl rfl
def zt21_24 (h : Nat) : ZB := [(0, [zf_ald 0, zf_ild 1, zf_putZ 21 41, zf_ald 0, zf_ic 0, zf_putI 21 42, zf_ic 0, zf_ist 2], 12),
  (12, [zf_ild 2, zf_ald 0, zf_getI 21 15, zf_ic2 .ge 137, zf_ald 0, zf_ald 0, zf_getR 21 21, zf_ild 2, zf_aldI 100, zf_ald 0, zf_getR 21 18, zf_ild 2, zf_aldI 100, zf_ic 1, zf_ic 1, zf_ald 0, zf_getR 21 19, zf_ild 2, zf_aldI 100, zf_ald 0, zf_getR 21 20, zf_ild 2, zf_aldI 100, zf_ald 0, zf_getR 21 19, zf_ild 2, zf_aldI 100, zf_ald 0, zf_getR 21 20, zf_ild 2, zf_aldI 100, zf_ic 300, zf_inv h 21 69 9, zf_ald 0, zf_getI 21 41, zf_if .ne 75, zf_go 131], 75),
  (75, [zf_ald 0, zf_getR 21 31, zf_ild 2, zf_ald 0, zf_getR 21 18, zf_ild 2, zf_aldI 100, zf_lc 1000, zf_ald 0, zf_getR 21 19, zf_ild 2, zf_aldI 100, zf_i2l, zf_lmul, zf_lc 1000, zf_ald 0, zf_getR 21 20, zf_ild 2, zf_aldI 100, zf_i2l, zf_lmul, zf_lc 300, zf_inv h 15 20 5, zf_ist 3, zf_ald 0, zf_getR 21 31, zf_ild 2, zf_ald 0, zf_getR 21 21, zf_ild 2, zf_aldI 100, zf_inv h 15 22 2, zf_ist 4], 131),
  (131, [zf_inc 2 1, zf_go 12], 137),
  (137, [zf_ic 0, zf_ist 2], 139),
  (139, [zf_ild 2, zf_ald 0, zf_getI 21 22, zf_ic2 .ge 247, zf_ald 0, zf_getR 21 12, zf_getR 17 15, zf_ild 2, zf_aldB, zf_if .ne 162, zf_go 241], 162),
  (162, [zf_ic 0, zf_ist 3], 164),
  (164, [zf_ild 3, zf_ald 0, zf_getR 21 12, zf_getI 17 3, zf_ic2 .ge 188, zf_ald 0, zf_ild 2, zf_ild 3, zf_ic 1, zf_inv h 21 60 3, zf_inc 3 1, zf_go 164], 188),
  (188, [zf_ic 0, zf_ist 3], 190),
  (190, [zf_ild 3, zf_ald 0, zf_getR 21 12, zf_getI 17 3, zf_ic2 .ge 214, zf_ald 0, zf_ild 2, zf_ild 3, zf_ic 0, zf_inv h 21 60 3, zf_inc 3 1, zf_go 190], 214),
  (214, [zf_ic 0, zf_ist 3], 216),
  (216, [zf_ild 3, zf_ic 1, zf_add, zf_ald 0, zf_getR 21 12, zf_getI 17 3, zf_ic2 .ge 241, zf_ald 0, zf_ild 2, zf_ild 3, zf_inv h 21 29 2, zf_inc 3 1, zf_go 216], 241),
  (241, [zf_inc 2 1, zf_go 139], 247),
  (247, [zf_ret], 248)]
theorem zT21_24 (h : Nat) : zTab h 21 24 5 (zt21_24 h) := zTab.mk (ret := none) (bl := xk21_24) (by decide +kernel) (by decide +kernel) rfl rfl
def zt21_25 (h : Nat) : ZB := [(0, [zf_ic 0, zf_ist 3, zf_ic 0, zf_ist 4], 5),
  (5, [zf_ild 4, zf_ald 0, zf_getI 21 15, zf_ic2 .ge 52, zf_ild 3, zf_if .ne 40, zf_ald 0, zf_getR 21 16, zf_ild 4, zf_aldI 100, zf_ild 1, zf_ic2 .ne 44, zf_ald 0, zf_getR 21 17, zf_ild 4, zf_aldI 100, zf_ild 2, zf_ic2 .ne 44], 40),
  (40, [zf_ic 1, zf_go 45], 44),
  (44, [zf_ic 0], 45),
  (45, [zf_ist 3, zf_inc 4 1, zf_go 5], 52),
  (52, [zf_ild 3, zf_retz], 54)]
theorem zT21_25 (h : Nat) : zTab h 21 25 5 (zt21_25 h) := zTab.mk (ret := (some .boolean)) (bl := xk21_25) (by decide +kernel) (by decide +kernel) rfl rfl
def zt21_26 (h : Nat) : ZB := [(0, [zf_ald 0, zf_getR 21 48, zf_inv h 13 17 0, zf_ald 0, zf_getR 21 48, zf_getI 13 11, zf_ist 1, zf_ald 0, zf_getR 21 48, zf_getR 13 16, zf_ald 0, zf_getR 21 48, zf_getI 13 15, zf_aldI 100, zf_ist 2, zf_ald 0, zf_getR 21 48, zf_getI 13 5, zf_ic 1, zf_add, zf_ist 3, zf_ic 0, zf_ist 4], 44),
  (44, [zf_ild 4, zf_ald 0, zf_getI 21 22, zf_ic2 .ge 162, zf_ald 0, zf_ild 4, zf_inv h 21 22 1, zf_ald 0, zf_getR 21 48, zf_getI 13 3, zf_if .ne 72, zf_go 156], 72),
  (72, [zf_ic 0, zf_ist 5], 75),
  (75, [zf_ild 5, zf_ald 0, zf_getR 21 48, zf_getI 13 11, zf_ic2 .ge 105, zf_ald 0, zf_getR 21 48, zf_ild 5, zf_inv h 13 6 1, zf_if .ne 105, zf_inc 5 1, zf_go 75], 105),
  (105, [zf_ild 1, zf_ild 5, zf_ald 0, zf_getR 21 48, zf_getI 13 11, zf_ic2 .ge 122, zf_ic 0, zf_go 123], 122),
  (122, [zf_ic 1], 123),
  (123, [zf_add, zf_ist 1, zf_ild 3, zf_ild 5, zf_ald 0, zf_getR 21 48, zf_getI 13 11, zf_ic2 .ge 142, zf_ic 2, zf_go 151], 142),
  (142, [zf_ic 2, zf_ald 0, zf_getR 21 48, zf_getI 13 3, zf_add], 151),
  (151, [zf_add, zf_ist 3, zf_inc 2 1], 156),
  (156, [zf_inc 4 1, zf_go 44], 162),
  (162, [zf_ald 0, zf_getR 21 48, zf_ic 0, zf_putI 13 3, zf_ild 2, zf_ic 8, zf_ic2 .gt 205, zf_ild 1, zf_ic 24, zf_ic2 .gt 205, zf_ald 0, zf_getR 21 48, zf_getI 13 15, zf_ic 12, zf_ic2 .ge 205, zf_ild 3, zf_ic 400, zf_ic2 .gt 205, zf_ic 1, zf_go 206], 205),
  (205, [zf_ic 0], 206),
  (206, [zf_retz], 207)]
theorem zT21_26 (h : Nat) : zTab h 21 26 6 (zt21_26 h) := zTab.mk (ret := (some .boolean)) (bl := xk21_26) (by decide +kernel) (by decide +kernel) rfl rfl
def zt21_27 (h : Nat) : ZB := [(0, [zf_ald 0, zf_getR 21 12, zf_ild 2, zf_ild 3, zf_ild 4, zf_inv h 17 4 3, zf_ist 5, zf_ild 5, zf_ic (-1), zf_ic2 .eq 37, zf_ald 0, zf_getR 21 12, zf_getR 17 8, zf_ild 5, zf_aldI 100, zf_ild 1, zf_ic2 .ne 37, zf_ic 1, zf_go 38], 37),
  (37, [zf_ic 0], 38),
  (38, [zf_retz], 39)]
theorem zT21_27 (h : Nat) : zTab h 21 27 6 (zt21_27 h) := zTab.mk (ret := (some .boolean)) (bl := xk21_27) (by decide +kernel) (by decide +kernel) rfl rfl
def zt21_28 (h : Nat) : ZB := [(0, [zf_ald 0, zf_ild 1, zf_ild 2, zf_ic 1, zf_ic 2, zf_ild 3, zf_ild 4, zf_ild 3, zf_ild 4, zf_ic 250, zf_inv h 21 69 9, zf_ald 0, zf_ild 1, zf_ild 2, zf_ic 1, zf_add, zf_ic 1, zf_ic 2, zf_ild 3, zf_ild 4, zf_ild 3, zf_ild 4, zf_ic 250, zf_inv h 21 69 9, zf_ald 0, zf_ild 1, zf_ild 2, zf_ic 2, zf_ic 3, zf_ild 3, zf_ild 4, zf_ild 3, zf_ild 4, zf_ic 150, zf_inv h 21 69 9, zf_ald 0, zf_getI 21 41, zf_if .ne 61, zf_ret], 61),
  (61, [zf_ald 0, zf_getR 21 31, zf_ild 2, zf_ild 2, zf_ic 1, zf_add, zf_lc 1000, zf_ild 3, zf_i2l, zf_lmul, zf_lc 1000, zf_ild 4, zf_i2l, zf_lmul, zf_lc 150, zf_inv h 15 27 5, zf_ist 5, zf_ald 0, zf_getR 21 43, zf_ic 0, zf_lc 1000, zf_ild 3, zf_i2l, zf_lmul, zf_lc 1000, zf_ild 4, zf_i2l, zf_lmul, zf_ild 2, zf_ild 2, zf_ic 1, zf_add, zf_inv h 16 8 5, zf_ist 5, zf_ald 0, zf_getR 21 36, zf_ald 0, zf_getI 21 35, zf_ild 2, zf_astI, zf_ald 0, zf_getR 21 37, zf_ald 0, zf_getI 21 35, zf_ild 3, zf_astI, zf_ald 0, zf_getR 21 38, zf_ald 0, zf_getI 21 35, zf_ild 4, zf_astI, zf_ald 0, zf_dup, zf_getI 21 35, zf_ic 1, zf_add, zf_putI 21 35, zf_ret], 159)]
theorem zT21_28 (h : Nat) : zTab h 21 28 6 (zt21_28 h) := zTab.mk (ret := none) (bl := xk21_28) (by decide +kernel) (by decide +kernel) rfl rfl
def zt21_29 (h : Nat) : ZB := [(0, [zf_ic 0, zf_ist 3], 2),
  (2, [zf_ild 3, zf_ald 0, zf_getR 21 12, zf_getI 17 2, zf_ic2 .ge 75, zf_ic 0, zf_ist 4], 16),
  (16, [zf_ild 4, zf_ald 0, zf_getR 21 12, zf_getI 17 1, zf_ic2 .ge 69, zf_ald 0, zf_ild 1, zf_ild 2, zf_ild 4, zf_ild 3, zf_inv h 21 27 4, zf_if .eq 63, zf_ald 0, zf_ild 1, zf_ild 2, zf_ic 1, zf_add, zf_ild 4, zf_ild 3, zf_inv h 21 27 4, zf_if .eq 63, zf_ald 0, zf_ild 1, zf_ild 2, zf_ild 4, zf_ild 3, zf_inv h 21 28 4], 63),
  (63, [zf_inc 4 1, zf_go 16], 69),
  (69, [zf_inc 3 1, zf_go 2], 75),
  (75, [zf_ret], 76)]
theorem zT21_29 (h : Nat) : zTab h 21 29 5 (zt21_29 h) := zTab.mk (ret := none) (bl := xk21_29) (by decide +kernel) (by decide +kernel) rfl rfl
def zt21_31 (h : Nat) : ZB := [(0, [zf_ald 0, zf_getR 21 8, zf_ild 1, zf_aldI 100, zf_ic (-1), zf_ic2 .eq 29, zf_ald 0, zf_getR 21 9, zf_ald 0, zf_getR 21 8, zf_ild 1, zf_aldI 100, zf_aldI 100, zf_ic (-1), zf_ic2 .ne 29, zf_ic 1, zf_go 30], 29),
  (29, [zf_ic 0], 30),
  (30, [zf_retz], 31)]
theorem zT21_31 (h : Nat) : zTab h 21 31 2 (zt21_31 h) := zTab.mk (ret := (some .boolean)) (bl := xk21_31) (by decide +kernel) (by decide +kernel) rfl rfl
def zt21_32 (h : Nat) : ZB := [(0, [zf_ald 0, zf_inv h 21 18 0, zf_ist 1, zf_ic 0, zf_ist 2], 7),
  (7, [zf_ild 2, zf_ic 8, zf_ic2 .ge 53, zf_ild 1, zf_if .eq 45, zf_ald 0, zf_getR 21 47, zf_ild 2, zf_inv h 12 2 1, zf_ic (-1), zf_ic2 .eq 41, zf_ald 0, zf_getR 21 47, zf_ild 2, zf_inv h 12 2 1, zf_ic 1, zf_ic2 .ne 45], 41),
  (41, [zf_ic 1, zf_go 46], 45),
  (45, [zf_ic 0], 46),
  (46, [zf_ist 1, zf_inc 2 1, zf_go 7], 53),
  (53, [zf_ild 1, zf_retz], 55)]
theorem zT21_32 (h : Nat) : zTab h 21 32 3 (zt21_32 h) := zTab.mk (ret := (some .boolean)) (bl := xk21_32) (by decide +kernel) (by decide +kernel) rfl rfl
def zt21_33 (h : Nat) : ZB := [(0, [zf_ald 0, zf_getI 21 4, zf_ic (-1), zf_ic2 .ne 10, zf_ic (-1), zf_reti], 10),
  (10, [zf_ald 0, zf_getR 21 3, zf_ald 0, zf_getI 21 4, zf_aldR, zf_ild 1, zf_inv h 20 20 1, zf_ist 2, zf_ald 0, zf_getR 21 3, zf_ald 0, zf_getI 21 4, zf_aldR, zf_inv h 20 51 0, zf_if .ne 43, zf_ild 2, zf_go 44], 43),
  (43, [zf_ic (-1)], 44),
  (44, [zf_reti], 45)]
theorem zT21_33 (h : Nat) : zTab h 21 33 3 (zt21_33 h) := zTab.mk (ret := (some .int)) (bl := xk21_33) (by decide +kernel) (by decide +kernel) rfl rfl
def zt21_34 (h : Nat) : ZB := [(0, [zf_ic 24, zf_ist 2], 3),
  (3, [zf_ild 2, zf_if .lt 39, zf_ald 0, zf_getR 21 1, zf_ald 0, zf_getI 21 2, zf_ild 1, zf_ild 2, zf_bit zshr, zf_ic 255, zf_bit zand, zf_astI, zf_ald 0, zf_dup, zf_getI 21 2, zf_ic 1, zf_add, zf_putI 21 2, zf_inc 2 (-8), zf_go 3], 39),
  (39, [zf_ret], 40)]
theorem zT21_34 (h : Nat) : zTab h 21 34 3 (zt21_34 h) := zTab.mk (ret := none) (bl := xk21_34) (by decide +kernel) (by decide +kernel) rfl rfl
def zt21_35 (h : Nat) : ZB := [(0, [zf_ald 0, zf_ild 1, zf_ild 2, zf_ic (-1), zf_inv h 20 50 3, zf_reti], 8)]
theorem zT21_35 (h : Nat) : zTab h 21 35 3 (zt21_35 h) := zTab.mk (ret := (some .int)) (bl := xk21_35) (by decide +kernel) (by decide +kernel) rfl rfl
def zt21_36 (h : Nat) : ZB := [(0, [zf_ald 0, zf_getR 21 12, zf_nul 17, zf_ald 0, zf_getR 21 48, zf_getI 13 2, zf_if .eq 23], 17),
  (17, [zf_ald 0, zf_ic 3, zf_inv h 21 47 1, zf_reti], 23),
  (23, [zf_ald 0, zf_getR 21 48, zf_inv h 13 17 0, zf_ald 0, zf_getR 21 48, zf_ild 1, zf_inv h 13 9 1, zf_if .ne 47, zf_ald 0, zf_ic 2, zf_inv h 21 47 1, zf_reti], 47),
  (47, [zf_ic 0, zf_ist 2, zf_ic 0, zf_ist 3], 51),
  (51, [zf_ald 0, zf_ild 1, zf_ild 3, zf_inv h 21 63 2, zf_ic (-1), zf_ic2 .eq 125, zf_ald 0, zf_ild 1, zf_ild 3, zf_ic 3, zf_add, zf_inv h 21 63 2, zf_ist 4, zf_ild 2, zf_ald 0, zf_ald 0, zf_ild 1, zf_ild 3, zf_inv h 21 63 2, zf_ald 0, zf_ild 1, zf_ild 3, zf_ic 1, zf_add, zf_inv h 21 63 2, zf_ald 0, zf_ild 1, zf_ild 3, zf_ic 2, zf_add, zf_inv h 21 63 2, zf_ild 4, zf_ic 16, zf_rem, zf_ild 4, zf_ic 16, zf_div, zf_inv h 21 46 5, zf_ic (-1), zf_ic2 .ne 116, zf_ic 0, zf_go 117], 116),
  (116, [zf_ic 1], 117),
  (117, [zf_add, zf_ist 2, zf_inc 3 4, zf_go 51], 125),
  (125, [zf_ald 0, zf_ild 2, zf_inv h 21 12 1, zf_reti], 131)]
theorem zT21_36 (h : Nat) : zTab h 21 36 5 (zt21_36 h) := zTab.mk (ret := (some .int)) (bl := xk21_36) (by decide +kernel) (by decide +kernel) rfl rfl
def zt21_37 (h : Nat) : ZB := [(0, [zf_ald 0, zf_getR 21 7, zf_nnl 11, zf_ic (-1000), zf_reti], 11),
  (11, [zf_ald 0, zf_getR 21 7, zf_ild 1, zf_inv h 18 23 1, zf_ist 2, zf_ald 0, zf_getR 21 7, zf_inv h 18 33 0, zf_if .ne 34, zf_ild 2, zf_go 37], 34),
  (34, [zf_ic (-1000)], 37),
  (37, [zf_reti], 38)]
theorem zT21_37 (h : Nat) : zTab h 21 37 3 (zt21_37 h) := zTab.mk (ret := (some .int)) (bl := xk21_37) (by decide +kernel) (by decide +kernel) rfl rfl
def zt21_38 (h : Nat) : ZB := [(0, [zf_ald 0, zf_getR 21 7, zf_nnl 9, zf_ic (-1), zf_reti], 9),
  (9, [zf_ald 0, zf_getR 21 7, zf_ild 1, zf_ild 2, zf_inv h 18 26 2, zf_ist 3, zf_ald 0, zf_getR 21 7, zf_inv h 18 33 0, zf_if .ne 33, zf_ild 3, zf_go 34], 33),
  (33, [zf_ic (-1)], 34),
  (34, [zf_reti], 35)]
theorem zT21_38 (h : Nat) : zTab h 21 38 4 (zt21_38 h) := zTab.mk (ret := (some .int)) (bl := xk21_38) (by decide +kernel) (by decide +kernel) rfl rfl
def zt21_39 (h : Nat) : ZB := [(0, [zf_ald 0, zf_getR 21 7, zf_nnl 11, zf_ic 0, zf_go 18], 11),
  (11, [zf_ald 0, zf_getR 21 7, zf_inv h 18 27 0], 18),
  (18, [zf_reti], 19)]
theorem zT21_39 (h : Nat) : zTab h 21 39 1 (zt21_39 h) := zTab.mk (ret := (some .int)) (bl := xk21_39) (by decide +kernel) (by decide +kernel) rfl rfl
def zt21_40 (h : Nat) : ZB := [(0, [zf_ald 1, zf_ild 2, zf_ic 0, zf_inv h 20 27 2, zf_lst 4, zf_ald 1, zf_ild 2, zf_ic 1, zf_inv h 20 27 2, zf_lst 6, zf_ald 1, zf_ild 2, zf_ic 0, zf_inst h 21 35 3, zf_ist 8, zf_ild 8, zf_ic 1, zf_ic2 .ne 57, zf_ald 1, zf_ild 2, zf_ic 0, zf_ic 0, zf_inv h 20 50 3, zf_ic 43, zf_ic2 .ne 57, zf_ald 0, zf_getR 21 7, zf_ild 3, zf_lld 4, zf_lld 6, zf_inv h 18 18 3, zf_ist 9, zf_ret], 57),
  (57, [zf_ild 8, zf_if .le 78, zf_ald 1, zf_ild 2, zf_ic 0, zf_ic 0, zf_inv h 20 50 3, zf_ic 94, zf_ic2 .ne 78, zf_ic 1, zf_go 79], 78),
  (78, [zf_ic 0], 79),
  (79, [zf_ist 9, zf_ic 0, zf_ist 10, zf_ild 9, zf_ist 11], 88),
  (88, [zf_ild 11, zf_ild 8, zf_ic2 .ge 152, zf_ald 1, zf_ild 2, zf_ic 0, zf_ild 11, zf_inv h 20 50 3, zf_ist 12, zf_ild 12, zf_ic 48, zf_ic2 .lt 119, zf_ild 12, zf_ic 57, zf_ic2 .le 120], 119),
  (119, [zf_ret], 120),
  (120, [zf_ild 8, zf_ild 9, zf_sub, zf_ic 3, zf_ic2 .le 133, zf_ic 0, zf_go 144], 133),
  (133, [zf_ic 10, zf_ild 10, zf_mul, zf_ild 12, zf_add, zf_ic 48, zf_sub], 144),
  (144, [zf_ist 10, zf_inc 11 1, zf_go 88], 152),
  (152, [zf_ild 8, zf_ild 9, zf_sub, zf_ic 1, zf_ic2 .lt 170, zf_ild 8, zf_ild 9, zf_sub, zf_ic 3, zf_ic2 .le 171], 170),
  (170, [zf_ret], 171),
  (171, [zf_ald 0, zf_getR 21 7, zf_ild 3, zf_lld 4, zf_lld 6, zf_ild 10, zf_inv h 18 19 4, zf_ist 11, zf_ic 0, zf_ist 12], 190),
  (190, [zf_ild 12, zf_ald 0, zf_getI 21 11, zf_ic2 .ge 260, zf_ild 11, zf_ic (-1), zf_ic2 .eq 260, zf_ild 9, zf_ic 1, zf_ic2 .ne 260, zf_ild 12, zf_ild 3, zf_ic2 .eq 228, zf_ald 0, zf_getR 21 9, zf_ild 12, zf_aldI 100, zf_ild 3, zf_ic2 .ne 254], 228),
  (228, [zf_ald 0, zf_getR 21 10, zf_ild 12, zf_aldI 100, zf_ic (-1), zf_ic2 .eq 254, zf_ald 0, zf_getR 21 7, zf_ild 12, zf_ild 11, zf_ild 10, zf_inv h 18 30 3, zf_ist 13], 254),
  (254, [zf_inc 12 1, zf_go 190], 260),
  (260, [zf_ret], 261)]
theorem zT21_40 (h : Nat) : zTab h 21 40 14 (zt21_40 h) := zTab.mk (ret := none) (bl := xk21_40) (by decide +kernel) (by decide +kernel) rfl rfl
def zt21_41 (h : Nat) : ZB := [(0, [zf_ald 0, zf_getI 21 4, zf_ic (-1), zf_ic2 .ne 10, zf_lc 0, zf_retl], 10),
  (10, [zf_ald 0, zf_getR 21 3, zf_ald 0, zf_getI 21 4, zf_aldR, zf_ild 1, zf_ild 2, zf_inv h 20 27 2, zf_lst 3, zf_ald 0, zf_getR 21 3, zf_ald 0, zf_getI 21 4, zf_aldR, zf_inv h 20 51 0, zf_if .ne 44, zf_lld 3, zf_go 45], 44),
  (44, [zf_lc 0], 45),
  (45, [zf_retl], 46)]
theorem zT21_41 (h : Nat) : zTab h 21 41 5 (zt21_41 h) := zTab.mk (ret := (some .long)) (bl := xk21_41) (by decide +kernel) (by decide +kernel) rfl rfl
def zt21_42 (h : Nat) : ZB := [(0, [zf_ald 0, zf_getR 21 47, zf_ild 1, zf_inv h 12 35 1, zf_ist 2, zf_ald 0, zf_getR 21 47, zf_inv h 12 53 0, zf_if .ne 24, zf_ild 2, zf_i2l, zf_go 27], 24),
  (24, [zf_lc 1099511627776], 27),
  (27, [zf_retl], 28)]
theorem zT21_42 (h : Nat) : zTab h 21 42 3 (zt21_42 h) := zTab.mk (ret := (some .long)) (bl := xk21_42) (by decide +kernel) (by decide +kernel) rfl rfl
def zt21_43 (h : Nat) : ZB := [(0, [zf_ic 0, zf_ist 2, zf_ic 0, zf_ist 3], 4),
  (4, [zf_ild 3, zf_ald 0, zf_getI 21 15, zf_ic2 .ge 36, zf_ild 2, zf_ald 0, zf_getR 21 21, zf_ild 3, zf_aldI 100, zf_ild 1, zf_ic2 .ne 27, zf_ic 1, zf_go 28], 27),
  (27, [zf_ic 0], 28),
  (28, [zf_add, zf_ist 2, zf_inc 3 1, zf_go 4], 36),
  (36, [zf_ild 2, zf_reti], 38)]
theorem zT21_43 (h : Nat) : zTab h 21 43 4 (zt21_43 h) := zTab.mk (ret := (some .int)) (bl := xk21_43) (by decide +kernel) (by decide +kernel) rfl rfl
def zt21_44 (h : Nat) : ZB := [(0, [zf_ic 0, zf_ist 1, zf_ic 0, zf_ist 2], 4),
  (4, [zf_ild 2, zf_ald 0, zf_getI 21 2, zf_ic2 .ge 42, zf_ild 1, zf_ald 0, zf_getR 21 47, zf_ald 0, zf_getR 21 1, zf_ild 2, zf_aldI 100, zf_inv h 12 54 1, zf_if .eq 33, zf_ic 0, zf_go 34], 33),
  (33, [zf_ic 1], 34),
  (34, [zf_add, zf_ist 1, zf_inc 2 1, zf_go 4], 42),
  (42, [zf_ald 0, zf_ic 0, zf_putI 21 2, zf_ald 0, zf_getR 21 47, zf_inv h 12 39 0, zf_ist 2, zf_ald 0, zf_ild 2, zf_if .ge 64, zf_ic 2, zf_go 65], 64),
  (64, [zf_ic 0], 65),
  (65, [zf_putI 21 0, zf_ild 2, zf_if .ge 78, zf_ild 2, zf_ic 1, zf_sub, zf_go 79], 78),
  (78, [zf_ild 2], 79),
  (79, [zf_reti], 80)]
theorem zT21_44 (h : Nat) : zTab h 21 44 3 (zt21_44 h) := zTab.mk (ret := (some .int)) (bl := xk21_44) (by decide +kernel) (by decide +kernel) rfl rfl
def zt21_45 (h : Nat) : ZB := [(0, [zf_ald 0, zf_getR 21 50, zf_ild 1, zf_ild 2, zf_ild 3, zf_inv h 19 24 3, zf_ist 4, zf_ald 0, zf_getR 21 50, zf_inv h 19 33 0, zf_if .ne 27, zf_ild 4, zf_go 28], 27),
  (27, [zf_ic (-1)], 28),
  (28, [zf_reti], 29)]
theorem zT21_45 (h : Nat) : zTab h 21 45 5 (zt21_45 h) := zTab.mk (ret := (some .int)) (bl := xk21_45) (by decide +kernel) (by decide +kernel) rfl rfl
def zt21_46 (h : Nat) : ZB := [(0, [zf_ald 0, zf_getR 21 12, zf_nnl 13, zf_ald 0, zf_ic 3, zf_inv h 21 47 1, zf_reti], 13),
  (13, [zf_ald 0, zf_getR 21 13, zf_ild 1, zf_ild 2, zf_inv h 18 26 2, zf_ist 6, zf_ald 0, zf_getR 21 13, zf_inv h 18 33 0, zf_if .ne 50, zf_ald 0, zf_getR 21 12, zf_ild 3, zf_ild 4, zf_ild 5, zf_inv h 17 4 3, zf_ic (-1), zf_ic2 .ne 56], 50),
  (50, [zf_ald 0, zf_ic 2, zf_inv h 21 47 1, zf_reti], 56),
  (56, [zf_ald 0, zf_ild 1, zf_ild 2, zf_inv h 21 25 2, zf_if .eq 71, zf_ald 0, zf_ic 4, zf_inv h 21 47 1, zf_reti], 71),
  (71, [zf_ald 0, zf_ild 6, zf_inv h 21 56 1, zf_ist 7, zf_ald 0, zf_getI 21 15, zf_ic 40, zf_ic2 .eq 103, zf_ild 7, zf_ic (-1), zf_ic2 .ne 109, zf_ald 0, zf_getI 21 22, zf_ic 12, zf_ic2 .ne 109], 103),
  (103, [zf_ald 0, zf_ic 1, zf_inv h 21 47 1, zf_reti], 109),
  (109, [zf_ild 7, zf_ic (-1), zf_ic2 .ne 145, zf_ald 0, zf_getR 21 23, zf_ald 0, zf_getI 21 22, zf_ild 6, zf_astI, zf_ald 0, zf_getR 21 12, zf_inv h 17 20 0, zf_ist 7, zf_ald 0, zf_dup, zf_getI 21 22, zf_ic 1, zf_add, zf_putI 21 22], 145),
  (145, [zf_ald 0, zf_getR 21 12, zf_ild 7, zf_ild 3, zf_ild 4, zf_ild 5, zf_inv h 17 26 4, zf_if .ne 168, zf_ald 0, zf_ic 4, zf_inv h 21 47 1, zf_reti], 168),
  (168, [zf_ald 0, zf_getR 21 16, zf_ald 0, zf_getI 21 15, zf_ild 1, zf_astI, zf_ald 0, zf_getR 21 17, zf_ald 0, zf_getI 21 15, zf_ild 2, zf_astI, zf_ald 0, zf_getR 21 18, zf_ald 0, zf_getI 21 15, zf_ild 3, zf_astI, zf_ald 0, zf_getR 21 19, zf_ald 0, zf_getI 21 15, zf_ild 4, zf_astI, zf_ald 0, zf_getR 21 20, zf_ald 0, zf_getI 21 15, zf_ild 5, zf_astI, zf_ald 0, zf_getR 21 21, zf_ald 0, zf_getI 21 15, zf_ild 7, zf_astI, zf_ald 0, zf_dup, zf_getI 21 15, zf_ic 1, zf_add, zf_putI 21 15, zf_ald 0, zf_ald 0, zf_getI 21 15, zf_ic 1, zf_sub, zf_inv h 21 12 1, zf_reti], 252)]
theorem zT21_46 (h : Nat) : zTab h 21 46 8 (zt21_46 h) := zTab.mk (ret := (some .int)) (bl := xk21_46) (by decide +kernel) (by decide +kernel) rfl rfl
def zt21_47 (h : Nat) : ZB := [(0, [zf_ald 0, zf_ild 1, zf_putI 21 0, zf_ic (-1), zf_reti], 7)]
theorem zT21_47 (h : Nat) : zTab h 21 47 2 (zt21_47 h) := zTab.mk (ret := (some .int)) (bl := xk21_47) (by decide +kernel) (by decide +kernel) rfl rfl
def zt21_48 (h : Nat) : ZB := [(0, [zf_ald 0, zf_ild 1, zf_putI 21 0, zf_ild 1, zf_if .eq 13, zf_ic 1, zf_go 14], 13),
  (13, [zf_ic 0], 14),
  (14, [zf_retz], 15)]
theorem zT21_48 (h : Nat) : zTab h 21 48 2 (zt21_48 h) := zTab.mk (ret := (some .boolean)) (bl := xk21_48) (by decide +kernel) (by decide +kernel) rfl rfl
def zt21_49 (h : Nat) : ZB := [(0, [zf_ald 0, zf_getR 21 31, zf_nnl 13, zf_ald 0, zf_ic 3, zf_inv h 21 47 1, zf_reti], 13),
  (13, [zf_ald 0, zf_ic 0, zf_inv h 21 65 1, zf_ald 0, zf_getI 21 45, zf_ist 1, zf_ald 0, zf_getR 21 50, zf_inv h 19 20 0, zf_ic 10, zf_ic2 .eq 42, zf_ild 1, zf_ic 512, zf_ic2 .le 48], 42),
  (42, [zf_ald 0, zf_ic 1, zf_inv h 21 47 1, zf_reti], 48),
  (48, [zf_ald 0, zf_inv h 21 32 0, zf_if .ne 61, zf_ald 0, zf_ic 5, zf_inv h 21 47 1, zf_reti], 61),
  (61, [zf_ic 1, zf_ist 2, zf_ic 0, zf_ist 3], 65),
  (65, [zf_ild 3, zf_ild 1, zf_ic2 .ge 141, zf_ild 3, zf_ic 64, zf_rem, zf_if .ne 105, zf_ild 2, zf_if .eq 103, zf_ald 0, zf_getR 21 50, zf_ild 3, zf_ic 64, zf_div, zf_inv h 19 10 1, zf_ild 3, zf_ic 64, zf_div, zf_ic2 .ne 103, zf_ic 1, zf_go 104], 103),
  (103, [zf_ic 0], 104),
  (104, [zf_ist 2], 105),
  (105, [zf_ild 2, zf_if .eq 133, zf_ald 0, zf_getR 21 50, zf_ild 3, zf_ic 64, zf_div, zf_ald 0, zf_ic 0, zf_ild 3, zf_inv h 21 14 2, zf_inv h 19 3 2, zf_if .eq 133, zf_ic 1, zf_go 134], 133),
  (133, [zf_ic 0], 134),
  (134, [zf_ist 2, zf_inc 3 1, zf_go 65], 141),
  (141, [zf_ald 0, zf_ald 0, zf_getR 21 50, zf_inv h 19 7 0, zf_inv h 21 12 1, zf_reti], 153)]
theorem zT21_49 (h : Nat) : zTab h 21 49 4 (zt21_49 h) := zTab.mk (ret := (some .int)) (bl := xk21_49) (by decide +kernel) (by decide +kernel) rfl rfl
def zt21_50 (h : Nat) : ZB := [(0, [zf_ald 0, zf_getR 21 7, zf_nnl 11, zf_ic (-1), zf_go 19], 11),
  (11, [zf_ald 0, zf_getR 21 7, zf_ild 1, zf_inv h 18 34 1], 19),
  (19, [zf_reti], 20)]
theorem zT21_50 (h : Nat) : zTab h 21 50 2 (zt21_50 h) := zTab.mk (ret := (some .int)) (bl := xk21_50) (by decide +kernel) (by decide +kernel) rfl rfl
def zt21_51 (h : Nat) : ZB := [(0, [zf_ald 0, zf_getR 21 48, zf_getI 13 2, zf_if .eq 24, zf_ald 0, zf_ald 0, zf_getR 21 48, zf_inv h 13 11 0, zf_inv h 21 12 1, zf_go 29], 24),
  (24, [zf_ald 0, zf_ic 3, zf_inv h 21 47 1], 29),
  (29, [zf_reti], 30)]
theorem zT21_51 (h : Nat) : zTab h 21 51 1 (zt21_51 h) := zTab.mk (ret := (some .int)) (bl := xk21_51) (by decide +kernel) (by decide +kernel) rfl rfl
def zt21_52 (h : Nat) : ZB := [(0, [zf_ald 1, zf_ild 2, zf_inst h 21 23 2, zf_ist 3, zf_ic 0, zf_ist 4], 9),
  (9, [zf_ild 4, zf_ild 2, zf_ic2 .ge 55, zf_ild 3, zf_ic (-1), zf_ic2 .eq 55, zf_ald 0, zf_ild 4, zf_inv h 21 31 1, zf_if .eq 49, zf_ald 1, zf_ild 3, zf_ic 1, zf_ild 4, zf_ic 0, zf_inst h 21 61 5, zf_if .eq 49, zf_ald 0, zf_getR 21 8, zf_ild 4, zf_aldI 100, zf_reti], 49),
  (49, [zf_inc 4 1, zf_go 9], 55),
  (55, [zf_ic (-1), zf_reti], 57)]
theorem zT21_52 (h : Nat) : zTab h 21 52 5 (zt21_52 h) := zTab.mk (ret := (some .int)) (bl := xk21_52) (by decide +kernel) (by decide +kernel) rfl rfl
def zt21_53 (h : Nat) : ZB := [(0, [zf_ald 0, zf_getR 21 31, zf_nul 17, zf_ild 1, zf_if .lt 17, zf_ild 1, zf_ic 6, zf_ic2 .le 19], 17),
  (17, [zf_ic (-1), zf_reti], 19),
  (19, [zf_ald 0, zf_getR 21 40, zf_inv h 16 3 0, zf_ic 1, zf_ist 2, zf_ic 0, zf_ist 3], 30),
  (30, [zf_ald 0, zf_ild 1, zf_ild 3, zf_inv h 21 14 2, zf_ic (-1), zf_ic2 .eq 72, zf_ild 2, zf_if .eq 64, zf_ald 0, zf_getR 21 40, zf_ald 0, zf_ild 1, zf_ild 3, zf_inv h 21 14 2, zf_inv h 16 30 1, zf_if .eq 64, zf_ic 1, zf_go 65], 64),
  (64, [zf_ic 0], 65),
  (65, [zf_ist 2, zf_inc 3 1, zf_go 30], 72),
  (72, [zf_ald 0, zf_getR 21 40, zf_inv h 16 21 0, zf_ist 3, zf_ic 0, zf_ist 4, zf_ic 0, zf_ist 5], 86),
  (86, [zf_ild 5, zf_ald 0, zf_getI 21 35, zf_ic2 .ge 230, zf_ald 0, zf_getR 21 39, zf_ild 5, zf_aldI 100, zf_ist 6, zf_ald 0, zf_getR 21 36, zf_ild 6, zf_aldI 100, zf_ild 1, zf_ic2 .eq 118, zf_go 224], 118),
  (118, [zf_ild 2, zf_if .eq 219, zf_ild 4, zf_ild 3, zf_ic2 .ge 219, zf_ald 0, zf_getR 21 40, zf_ild 4, zf_ic 1, zf_inv h 16 2 2, zf_lc 1000, zf_ald 0, zf_getR 21 37, zf_ild 6, zf_aldI 100, zf_i2l, zf_lmul, zf_lcmp, zf_if .ne 219, zf_ald 0, zf_getR 21 40, zf_ild 4, zf_ic 2, zf_inv h 16 2 2, zf_lc 1000, zf_ald 0, zf_getR 21 38, zf_ild 6, zf_aldI 100, zf_i2l, zf_lmul, zf_lcmp, zf_if .ne 219, zf_ald 0, zf_getR 21 40, zf_ild 4, zf_ic 5, zf_inv h 16 2 2, zf_ild 1, zf_i2l, zf_lcmp, zf_if .ne 219, zf_ald 0, zf_getR 21 40, zf_ild 4, zf_ic 6, zf_inv h 16 2 2, zf_ild 1, zf_ic 1, zf_add, zf_i2l, zf_lcmp, zf_if .ne 219, zf_ic 1, zf_go 220], 219),
  (219, [zf_ic 0], 220),
  (220, [zf_ist 2, zf_inc 4 1], 224),
  (224, [zf_inc 5 1, zf_go 86], 230),
  (230, [zf_ild 2, zf_if .eq 244, zf_ild 4, zf_ild 3, zf_ic2 .ne 244, zf_ic 1, zf_go 245], 244),
  (244, [zf_ic 0], 245),
  (245, [zf_reti], 246)]
theorem zT21_53 (h : Nat) : zTab h 21 53 7 (zt21_53 h) := zTab.mk (ret := (some .int)) (bl := xk21_53) (by decide +kernel) (by decide +kernel) rfl rfl
def zt21_54 (h : Nat) : ZB := [(0, [zf_ald 0, zf_getR 21 50, zf_ild 1, zf_ild 2, zf_inv h 19 27 2, zf_ist 3, zf_ald 0, zf_getR 21 50, zf_inv h 19 33 0, zf_if .ne 24, zf_ild 3, zf_go 25], 24),
  (24, [zf_ic (-1)], 25),
  (25, [zf_reti], 26)]
theorem zT21_54 (h : Nat) : zTab h 21 54 4 (zt21_54 h) := zTab.mk (ret := (some .int)) (bl := xk21_54) (by decide +kernel) (by decide +kernel) rfl rfl
def zt21_55 (h : Nat) : ZB := [(0, [zf_ald 0, zf_getR 21 12, zf_nnl 13, zf_ald 0, zf_ic 3, zf_inv h 21 47 1, zf_reti], 13),
  (13, [zf_ald 0, zf_getR 21 12, zf_ild 1, zf_inv h 17 29 1, zf_ist 2, zf_ald 0, zf_getR 21 12, zf_inv h 17 32 0, zf_if .ne 40, zf_ald 0, zf_ild 2, zf_inv h 21 12 1, zf_go 45], 40),
  (40, [zf_ald 0, zf_ic 2, zf_inv h 21 47 1], 45),
  (45, [zf_reti], 46)]
theorem zT21_55 (h : Nat) : zTab h 21 55 3 (zt21_55 h) := zTab.mk (ret := (some .int)) (bl := xk21_55) (by decide +kernel) (by decide +kernel) rfl rfl
def zt21_56 (h : Nat) : ZB := [(0, [zf_ic (-1), zf_ist 2, zf_ic 0, zf_ist 3], 4),
  (4, [zf_ild 3, zf_ald 0, zf_getI 21 22, zf_ic2 .ge 34, zf_ald 0, zf_getR 21 23, zf_ild 3, zf_aldI 100, zf_ild 1, zf_ic2 .ne 26, zf_ild 3, zf_go 27], 26),
  (26, [zf_ild 2], 27),
  (27, [zf_ist 2, zf_inc 3 1, zf_go 4], 34),
  (34, [zf_ild 2, zf_reti], 36)]
theorem zT21_56 (h : Nat) : zTab h 21 56 4 (zt21_56 h) := zTab.mk (ret := (some .int)) (bl := xk21_56) (by decide +kernel) (by decide +kernel) rfl rfl
def zt21_57 (h : Nat) : ZB := [(0, [zf_ald 0, zf_ild 1, zf_ild 2, zf_ic 0, zf_ic 0, zf_ild 3, zf_ild 4, zf_ild 5, zf_ild 6, zf_ic 100, zf_inv h 21 69 9, zf_ald 0, zf_getI 21 41, zf_if .ne 25, zf_ret], 25),
  (25, [zf_ald 0, zf_getR 21 31, zf_ild 2, zf_lc 1000, zf_ild 3, zf_i2l, zf_lmul, zf_lc 100, zf_lsub, zf_lc 1000, zf_ild 4, zf_i2l, zf_lmul, zf_lc 100, zf_lsub, zf_lc 1000, zf_ild 5, zf_ild 3, zf_sub, zf_i2l, zf_lmul, zf_lc 200, zf_ladd, zf_lc 1000, zf_ild 6, zf_ild 4, zf_sub, zf_i2l, zf_lmul, zf_lc 200, zf_ladd, zf_inv h 15 23 5, zf_ist 7, zf_ret], 84)]
theorem zT21_57 (h : Nat) : zTab h 21 57 8 (zt21_57 h) := zTab.mk (ret := none) (bl := xk21_57) (by decide +kernel) (by decide +kernel) rfl rfl
def zt21_58 (h : Nat) : ZB := [(0, [zf_ild 2, zf_ic (-1), zf_ic2 .lt 24, zf_ild 2, zf_ic 4, zf_ic2 .ge 24, zf_ild 3, zf_ic (-1), zf_ic2 .lt 24, zf_ild 3, zf_ic 4, zf_ic2 .ge 24, zf_ic 1, zf_go 25], 24),
  (24, [zf_ic 0], 25),
  (25, [zf_ist 5, zf_ild 1, zf_if .lt 63, zf_ild 1, zf_ic 4, zf_ic2 .gt 63, zf_ild 5, zf_if .eq 63, zf_ild 4, zf_if .lt 63, zf_ild 4, zf_ild 1, zf_ic 4, zf_ic2 .ne 57, zf_ic 0, zf_go 60], 57),
  (57, [zf_ic 100000], 60),
  (60, [zf_ic2 .le 69], 63),
  (63, [zf_ald 0, zf_ic 2, zf_inv h 21 47 1, zf_reti], 69),
  (69, [zf_ald 0, zf_getI 21 24, zf_ic 30, zf_ic2 .ne 84, zf_ald 0, zf_ic 1, zf_inv h 21 47 1, zf_reti], 84),
  (84, [zf_ald 0, zf_getR 21 25, zf_ald 0, zf_getI 21 24, zf_ild 1, zf_astI, zf_ald 0, zf_getR 21 26, zf_ald 0, zf_getI 21 24, zf_ild 2, zf_astI, zf_ald 0, zf_getR 21 27, zf_ald 0, zf_getI 21 24, zf_ild 3, zf_astI, zf_ald 0, zf_getR 21 28, zf_ald 0, zf_getI 21 24, zf_ild 4, zf_astI, zf_ald 0, zf_dup, zf_getI 21 24, zf_ic 1, zf_add, zf_putI 21 24, zf_ald 0, zf_ald 0, zf_getI 21 24, zf_ic 1, zf_sub, zf_inv h 21 12 1, zf_reti], 146)]
theorem zT21_58 (h : Nat) : zTab h 21 58 6 (zt21_58 h) := zTab.mk (ret := (some .int)) (bl := xk21_58) (by decide +kernel) (by decide +kernel) rfl rfl
def zt21_59 (h : Nat) : ZB := [(0, [zf_ald 0, zf_getR 21 47, zf_ild 1, zf_i2l, zf_inv h 12 48 1, zf_ist 2, zf_ald 0, zf_getR 21 47, zf_inv h 12 53 0, zf_if .ne 28, zf_ald 0, zf_ild 2, zf_inv h 21 12 1, zf_go 33], 28),
  (28, [zf_ald 0, zf_ic 2, zf_inv h 21 47 1], 33),
  (33, [zf_reti], 34)]
theorem zT21_59 (h : Nat) : zTab h 21 59 3 (zt21_59 h) := zTab.mk (ret := (some .int)) (bl := xk21_59) (by decide +kernel) (by decide +kernel) rfl rfl
def zt21_60 (h : Nat) : ZB := [(0, [zf_ild 3, zf_if .eq 14, zf_ald 0, zf_getR 21 12, zf_getI 17 2, zf_go 21], 14),
  (14, [zf_ald 0, zf_getR 21 12, zf_getI 17 1], 21),
  (21, [zf_ist 4, zf_ild 3, zf_if .eq 37, zf_ald 0, zf_getR 21 12, zf_getI 17 1, zf_go 44], 37),
  (37, [zf_ald 0, zf_getR 21 12, zf_getI 17 2], 44),
  (44, [zf_ist 5, zf_ic 0, zf_ist 6], 49),
  (49, [zf_ild 6, zf_ild 4, zf_ic2 .ge 189, zf_ic 0, zf_ist 7], 59),
  (59, [zf_ild 7, zf_ild 5, zf_ic2 .ge 183, zf_ild 7, zf_ist 8], 70),
  (70, [zf_ild 8, zf_ild 5, zf_ic2 .ge 116, zf_ild 3, zf_if .eq 97, zf_ald 0, zf_ild 1, zf_ild 2, zf_ild 8, zf_ild 6, zf_inv h 21 27 4, zf_if .eq 116, zf_go 110], 97),
  (97, [zf_ald 0, zf_ild 1, zf_ild 2, zf_ild 6, zf_ild 8, zf_inv h 21 27 4, zf_if .eq 116], 110),
  (110, [zf_inc 8 1, zf_go 70], 116),
  (116, [zf_ild 8, zf_ild 7, zf_sub, zf_ic 1, zf_ic2 .le 145, zf_ild 3, zf_if .eq 145, zf_ald 0, zf_ild 1, zf_ild 2, zf_ild 7, zf_ild 6, zf_ild 8, zf_ic 1, zf_sub, zf_ild 6, zf_inv h 21 57 6], 145),
  (145, [zf_ild 8, zf_ild 7, zf_sub, zf_ic 1, zf_ic2 .le 174, zf_ild 3, zf_if .ne 174, zf_ald 0, zf_ild 1, zf_ild 2, zf_ild 6, zf_ild 7, zf_ild 6, zf_ild 8, zf_ic 1, zf_sub, zf_inv h 21 57 6], 174),
  (174, [zf_ild 8, zf_ic 1, zf_add, zf_ist 7, zf_go 59], 183),
  (183, [zf_inc 6 1, zf_go 49], 189),
  (189, [zf_ret], 190)]
theorem zT21_60 (h : Nat) : zTab h 21 60 9 (zt21_60 h) := zTab.mk (ret := none) (bl := xk21_60) (by decide +kernel) (by decide +kernel) rfl rfl
def zt21_61 (h : Nat) : ZB := [(0, [zf_ald 0, zf_ild 1, zf_ild 2, zf_inst h 21 35 3, zf_ist 5, zf_ild 5, zf_ald 0, zf_ild 3, zf_ild 4, zf_inst h 21 35 3, zf_ic2 .eq 22, zf_ic 0, zf_retz], 22),
  (22, [zf_ic 0, zf_ist 6], 25),
  (25, [zf_ild 6, zf_ild 5, zf_ic2 .ge 60, zf_ald 0, zf_ild 1, zf_ild 2, zf_ild 6, zf_inv h 20 50 3, zf_ald 0, zf_ild 3, zf_ild 4, zf_ild 6, zf_inv h 20 50 3, zf_ic2 .eq 54, zf_ic 0, zf_retz], 54),
  (54, [zf_inc 6 1, zf_go 25], 60),
  (60, [zf_ic 1, zf_retz], 62)]
theorem zT21_61 (h : Nat) : zTab h 21 61 7 (zt21_61 h) := zTab.mk (ret := (some .boolean)) (bl := xk21_61) (by decide +kernel) (by decide +kernel) rfl rfl
def zt21_62 (h : Nat) : ZB := [(0, [zf_ald 0, zf_getR 21 12, zf_nul 17, zf_ald 0, zf_getR 21 48, zf_getI 13 2, zf_if .eq 23], 17),
  (17, [zf_ald 0, zf_ic 3, zf_inv h 21 47 1, zf_reti], 23),
  (23, [zf_ald 0, zf_inv h 21 26 0, zf_if .ne 36, zf_ald 0, zf_ic 1, zf_inv h 21 47 1, zf_reti], 36),
  (36, [zf_ic 0, zf_ist 1, zf_ic 0, zf_ist 2], 40),
  (40, [zf_ild 2, zf_ald 0, zf_getI 21 22, zf_ic2 .ge 77, zf_ald 0, zf_ild 2, zf_inv h 21 22 1, zf_ald 0, zf_getR 21 48, zf_getI 13 3, zf_if .le 71, zf_ald 0, zf_getR 21 48, zf_inv h 13 2 0, zf_ist 1], 71),
  (71, [zf_inc 2 1, zf_go 40], 77),
  (77, [zf_ald 0, zf_ald 0, zf_getR 21 48, zf_inv h 13 16 0, zf_inv h 21 12 1, zf_reti], 89)]
theorem zT21_62 (h : Nat) : zTab h 21 62 3 (zt21_62 h) := zTab.mk (ret := (some .int)) (bl := xk21_62) (by decide +kernel) (by decide +kernel) rfl rfl
def zt21_63 (h : Nat) : ZB := [(0, [zf_ald 0, zf_getR 21 48, zf_ild 1, zf_ild 2, zf_inv h 13 10 2, zf_ist 3, zf_ald 0, zf_getR 21 48, zf_inv h 13 15 0, zf_if .ne 24, zf_ild 3, zf_go 25], 24),
  (24, [zf_ic (-1)], 25),
  (25, [zf_reti], 26)]
theorem zT21_63 (h : Nat) : zTab h 21 63 4 (zt21_63 h) := zTab.mk (ret := (some .int)) (bl := xk21_63) (by decide +kernel) (by decide +kernel) rfl rfl
def zt21_64 (h : Nat) : ZB := [(0, [zf_ald 0, zf_getI 21 45, zf_ald 0, zf_getI 21 44, zf_ic2 .ne 16, zf_ald 0, zf_ild 1, zf_putI 21 46], 16),
  (16, [zf_ald 0, zf_dup, zf_getI 21 45, zf_ic 1, zf_add, zf_putI 21 45, zf_ret], 27)]
theorem zT21_64 (h : Nat) : zTab h 21 64 2 (zt21_64 h) := zTab.mk (ret := none) (bl := xk21_64) (by decide +kernel) (by decide +kernel) rfl rfl
def zt21_65 (h : Nat) : ZB := [(0, [zf_ald 0, zf_ic 0, zf_putI 21 45, zf_ald 0, zf_ic 77, zf_inv h 21 64 1, zf_ald 0, zf_ic 52, zf_inv h 21 64 1, zf_ald 0, zf_ic 56, zf_inv h 21 64 1, zf_ald 0, zf_ic 10, zf_inv h 21 64 1, zf_ald 0, zf_ic 76, zf_inv h 21 64 1, zf_ald 0, zf_ild 1, zf_inv h 21 66 1, zf_ald 0, zf_ic 44, zf_inv h 21 64 1, zf_ald 0, zf_ild 1, zf_ic 1, zf_add, zf_inv h 21 66 1, zf_ald 0, zf_ic 10, zf_inv h 21 64 1, zf_ald 0, zf_inv h 21 67 0, zf_ald 0, zf_ic 67, zf_inv h 21 64 1, zf_ald 0, zf_ic 300, zf_inv h 21 66 1, zf_ald 0, zf_ic 80, zf_inv h 21 64 1, zf_ald 0, zf_ic 10, zf_inv h 21 64 1, zf_ald 0, zf_ic 37, zf_inv h 21 64 1, zf_ald 0, zf_ic 10, zf_inv h 21 64 1, zf_ic 0, zf_ist 2, zf_ic 0, zf_ist 3], 104),
  (104, [zf_ild 3, zf_ald 0, zf_getI 21 35, zf_ic2 .ge 204, zf_ald 0, zf_getR 21 39, zf_ild 3, zf_aldI 100, zf_ist 4, zf_ald 0, zf_getR 21 36, zf_ild 4, zf_aldI 100, zf_ild 1, zf_ic2 .eq 134, zf_go 198], 134),
  (134, [zf_ild 2, zf_if .ne 148, zf_ald 0, zf_inv h 21 67 0, zf_ald 0, zf_ic 10, zf_inv h 21 64 1], 148),
  (148, [zf_ic 1, zf_ist 2, zf_ald 0, zf_ic 88, zf_inv h 21 64 1, zf_ald 0, zf_ic 1000, zf_ald 0, zf_getR 21 37, zf_ild 4, zf_aldI 100, zf_mul, zf_inv h 21 66 1, zf_ald 0, zf_ic 89, zf_inv h 21 64 1, zf_ald 0, zf_ic 1000, zf_ald 0, zf_getR 21 38, zf_ild 4, zf_aldI 100, zf_mul, zf_inv h 21 66 1, zf_ald 0, zf_ic 10, zf_inv h 21 64 1], 198),
  (198, [zf_inc 3 1, zf_go 104], 204),
  (204, [zf_ald 0, zf_ic 77, zf_inv h 21 64 1, zf_ald 0, zf_ic 51, zf_inv h 21 64 1, zf_ald 0, zf_ic 48, zf_inv h 21 64 1, zf_ald 0, zf_ic 10, zf_inv h 21 64 1, zf_ret], 229)]
theorem zT21_65 (h : Nat) : zTab h 21 65 5 (zt21_65 h) := zTab.mk (ret := none) (bl := xk21_65) (by decide +kernel) (by decide +kernel) rfl rfl
def zt21_66 (h : Nat) : ZB := [(0, [zf_ic 1, zf_ist 2], 2),
  (2, [zf_ild 1, zf_ild 2, zf_div, zf_ic 9, zf_ic2 .le 18, zf_ic 10, zf_ild 2, zf_mul, zf_ist 2, zf_go 2], 18),
  (18, [zf_ild 2, zf_if .le 43, zf_ald 0, zf_ic 48, zf_ild 1, zf_ild 2, zf_div, zf_ic 10, zf_rem, zf_add, zf_inv h 21 64 1, zf_ild 2, zf_ic 10, zf_div, zf_ist 2, zf_go 18], 43),
  (43, [zf_ret], 44)]
theorem zT21_66 (h : Nat) : zTab h 21 66 3 (zt21_66 h) := zTab.mk (ret := none) (bl := xk21_66) (by decide +kernel) (by decide +kernel) rfl rfl
def zt21_67 (h : Nat) : ZB := [(0, [zf_ald 0, zf_ic 84, zf_inv h 21 64 1, zf_ald 0, zf_ic 48, zf_inv h 21 64 1, zf_ret], 13)]
theorem zT21_67 (h : Nat) : zTab h 21 67 1 (zt21_67 h) := zTab.mk (ret := none) (bl := xk21_67) (by decide +kernel) (by decide +kernel) rfl rfl
def zt21_68 (h : Nat) : ZB := [(0, [zf_ald 0, zf_getR 21 50, zf_ild 1, zf_inv h 19 18 1, zf_if .ne 17, zf_ald 0, zf_ic 2, zf_inv h 21 47 1, zf_reti], 17),
  (17, [zf_ald 0, zf_getR 21 50, zf_getI 19 22, zf_ic 60, zf_ic2 .ne 35, zf_ald 0, zf_ic 1, zf_inv h 21 47 1, zf_reti], 35),
  (35, [zf_ald 0, zf_getR 21 50, zf_ild 1, zf_inv h 19 29 1, zf_ist 2, zf_ild 2, zf_ic (-1), zf_ic2 .ne 57, zf_ald 0, zf_ic 5, zf_inv h 21 47 1, zf_go 62], 57),
  (57, [zf_ald 0, zf_ild 2, zf_inv h 21 12 1], 62),
  (62, [zf_reti], 63)]
theorem zT21_68 (h : Nat) : zTab h 21 68 3 (zt21_68 h) := zTab.mk (ret := (some .int)) (bl := xk21_68) (by decide +kernel) (by decide +kernel) rfl rfl
def zt21_69 (h : Nat) : ZB := [(0, [zf_ald 0, zf_dup, zf_getI 21 42, zf_ic 1, zf_add, zf_putI 21 42, zf_ald 0, zf_getI 21 41, zf_if .ne 18, zf_ret], 18),
  (18, [zf_ald 0, zf_getR 21 32, zf_ild 1, zf_ild 2, zf_ild 3, zf_inv h 14 32 3, zf_ist 10, zf_ald 0, zf_getR 21 32, zf_ild 10, zf_lc 1000, zf_ild 5, zf_i2l, zf_lmul, zf_lc 1000, zf_ild 6, zf_i2l, zf_lmul, zf_inv h 14 4 3, zf_ist 11, zf_ild 3, zf_if .ne 84, zf_ald 0, zf_getR 21 32, zf_ild 10, zf_lc 1000, zf_ild 7, zf_i2l, zf_lmul, zf_lc 1000, zf_ild 8, zf_i2l, zf_lmul, zf_inv h 14 4 3, zf_ist 11], 84),
  (84, [zf_ald 0, zf_getR 21 32, zf_ild 10, zf_ild 9, zf_i2l, zf_inv h 14 1 2, zf_ist 11, zf_ald 0, zf_getR 21 32, zf_ild 10, zf_ild 4, zf_inv h 14 2 2, zf_ist 11, zf_ret], 112)]
theorem zT21_69 (h : Nat) : zTab h 21 69 12 (zt21_69 h) := zTab.mk (ret := none) (bl := xk21_69) (by decide +kernel) (by decide +kernel) rfl rfl
def zt21_70 (h : Nat) : ZB := [(0, [zf_ild 1, zf_if .lt 9, zf_ild 1, zf_ic 1, zf_ic2 .le 15], 9),
  (9, [zf_ald 0, zf_ic 2, zf_inv h 21 47 1, zf_reti], 15),
  (15, [zf_ald 0, zf_getI 21 5, zf_ic 24, zf_ic2 .eq 32, zf_ald 0, zf_getI 21 6, zf_ic 4, zf_ic2 .ne 38], 32),
  (32, [zf_ald 0, zf_ic 1, zf_inv h 21 47 1, zf_reti], 38),
  (38, [zf_ald 0, zf_dup, zf_getI 21 5, zf_ic 1, zf_add, zf_putI 21 5, zf_ald 0, zf_getR 21 3, zf_ild 1, zf_aldR, zf_ast 2, zf_ald 2, zf_inv h 20 6 0, zf_ic 0, zf_ist 3, zf_ic 0, zf_ist 4], 64),
  (64, [zf_ild 4, zf_ald 0, zf_getI 21 2, zf_ic2 .ge 101, zf_ild 3, zf_ald 2, zf_ald 0, zf_getR 21 1, zf_ild 4, zf_aldI 100, zf_inv h 20 52 1, zf_if .eq 92, zf_ic 0, zf_go 93], 92),
  (92, [zf_ic 1], 93),
  (93, [zf_add, zf_ist 3, zf_inc 4 1, zf_go 64], 101),
  (101, [zf_ald 0, zf_ic 0, zf_putI 21 2, zf_ald 2, zf_inv h 20 32 0, zf_ist 4, zf_ild 4, zf_if .ge 127, zf_ald 0, zf_ic 2, zf_putI 21 0, zf_ild 4, zf_ic 1, zf_sub, zf_reti], 127),
  (127, [zf_ald 0, zf_ild 1, zf_putI 21 4, zf_ald 0, zf_dup, zf_getI 21 6, zf_ic 1, zf_add, zf_putI 21 6, zf_ald 0, zf_new 18 33, zf_dup, zf_ins h 18 5 0, zf_putR 21 7, zf_ald 0, zf_ald 2, zf_inv h 21 13 1, zf_ald 0, zf_ild 4, zf_inv h 21 12 1, zf_reti], 165)]
theorem zT21_70 (h : Nat) : zTab h 21 70 5 (zt21_70 h) := zTab.mk (ret := (some .int)) (bl := xk21_70) (by decide +kernel) (by decide +kernel) rfl rfl
def zt21_71 (h : Nat) : ZB := [(0, [zf_ald 0, zf_getR 21 31, zf_nnl 11, zf_ic (-1), zf_go 18], 11),
  (11, [zf_ald 0, zf_getR 21 31, zf_inv h 15 24 0], 18),
  (18, [zf_reti], 19)]
theorem zT21_71 (h : Nat) : zTab h 21 71 1 (zt21_71 h) := zTab.mk (ret := (some .int)) (bl := xk21_71) (by decide +kernel) (by decide +kernel) rfl rfl
def zt21_72 (h : Nat) : ZB := [(0, [zf_ald 0, zf_getR 21 48, zf_getI 13 2, zf_if .eq 16, zf_ald 0, zf_ic 3, zf_inv h 21 47 1, zf_reti], 16),
  (16, [zf_ald 0, zf_getR 21 48, zf_getI 13 5, zf_ic 400, zf_ic2 .ne 35, zf_ald 0, zf_ic 1, zf_inv h 21 47 1, zf_reti], 35),
  (35, [zf_ald 0, zf_ald 0, zf_getR 21 48, zf_inv h 13 13 0, zf_inv h 21 12 1, zf_reti], 47)]
theorem zT21_72 (h : Nat) : zTab h 21 72 1 (zt21_72 h) := zTab.mk (ret := (some .int)) (bl := xk21_72) (by decide +kernel) (by decide +kernel) rfl rfl
def zt21_73 (h : Nat) : ZB := [(0, [zf_ald 1, zf_ald 1, zf_ild 2, zf_inv h 20 29 1, zf_inv h 20 29 1, zf_ist 3, zf_ald 1, zf_ild 3, zf_inv h 20 29 1, zf_ist 4, zf_ald 0, zf_ild 4, zf_inv h 21 31 1, zf_if .ne 27, zf_ret], 27),
  (27, [zf_ald 0, zf_getR 21 7, zf_ald 0, zf_getR 21 8, zf_ild 4, zf_aldI 100, zf_ald 1, zf_ild 3, zf_ic 0, zf_inv h 20 27 2, zf_ald 1, zf_ild 2, zf_ic 0, zf_inv h 20 27 2, zf_ladd, zf_ald 1, zf_ild 3, zf_ic 1, zf_inv h 20 27 2, zf_ald 1, zf_ild 2, zf_ic 1, zf_inv h 20 27 2, zf_ladd, zf_ild 3, zf_inv h 18 29 4, zf_ist 5, zf_ret], 71)]
theorem zT21_73 (h : Nat) : zTab h 21 73 6 (zt21_73 h) := zTab.mk (ret := none) (bl := xk21_73) (by decide +kernel) (by decide +kernel) rfl rfl
def zt21_74 (h : Nat) : ZB := [(0, [zf_ald 0, zf_getI 21 0, zf_reti], 5)]
theorem zT21_74 (h : Nat) : zTab h 21 74 1 (zt21_74 h) := zTab.mk (ret := (some .int)) (bl := xk21_74) (by decide +kernel) (by decide +kernel) rfl rfl
def zt21_75 (h : Nat) : ZB := [(0, [zf_ald 0, zf_getR 21 31, zf_nul 28, zf_ild 1, zf_if .lt 28, zf_ild 1, zf_ald 0, zf_getI 21 33, zf_ic2 .ge 28, zf_ild 2, zf_if .lt 28, zf_ild 2, zf_ic 2, zf_ic2 .le 30], 28),
  (28, [zf_ic (-1), zf_reti], 30),
  (30, [zf_ald 0, zf_getR 21 32, zf_ild 1, zf_ild 2, zf_inv h 14 35 2, zf_ist 3, zf_ild 2, zf_if .ne 55, zf_ild 3, zf_ic 3, zf_ic2 .le 55, zf_ild 3, zf_ic 1, zf_sub, zf_go 56], 55),
  (55, [zf_ild 3], 56),
  (56, [zf_reti], 57)]
theorem zT21_75 (h : Nat) : zTab h 21 75 4 (zt21_75 h) := zTab.mk (ret := (some .int)) (bl := xk21_75) (by decide +kernel) (by decide +kernel) rfl rfl
def zt21_76 (h : Nat) : ZB := [(0, [zf_ald 0, zf_getR 21 31, zf_nnl 11, zf_ic (-1), zf_go 15], 11),
  (11, [zf_ald 0, zf_getI 21 33], 15),
  (15, [zf_reti], 16)]
theorem zT21_76 (h : Nat) : zTab h 21 76 1 (zt21_76 h) := zTab.mk (ret := (some .int)) (bl := xk21_76) (by decide +kernel) (by decide +kernel) rfl rfl
def zt21_77 (h : Nat) : ZB := [(0, [zf_ald 0, zf_getR 21 12, zf_nnl 9, zf_ic (-1), zf_reti], 9),
  (9, [zf_ald 0, zf_getR 21 12, zf_ild 1, zf_ild 2, zf_ild 3, zf_inv h 17 25 3, zf_ist 4, zf_ald 0, zf_getR 21 12, zf_inv h 17 32 0, zf_if .ne 36, zf_ild 4, zf_go 37], 36),
  (36, [zf_ic (-1)], 37),
  (37, [zf_reti], 38)]
theorem zT21_77 (h : Nat) : zTab h 21 77 5 (zt21_77 h) := zTab.mk (ret := (some .int)) (bl := xk21_77) (by decide +kernel) (by decide +kernel) rfl rfl
def zt21_78 (h : Nat) : ZB := [(0, [zf_ald 0, zf_getR 21 7, zf_ild 3, zf_ald 1, zf_ild 2, zf_ic 0, zf_inv h 20 27 2, zf_ald 1, zf_ild 2, zf_ic 1, zf_inv h 20 27 2, zf_ald 1, zf_ild 2, zf_ic 2, zf_inv h 20 27 2, zf_ald 1, zf_ild 2, zf_ic 3, zf_inv h 20 27 2, zf_inv h 18 36 5, zf_ist 4, zf_ret], 35)]
theorem zT21_78 (h : Nat) : zTab h 21 78 5 (zt21_78 h) := zTab.mk (ret := none) (bl := xk21_78) (by decide +kernel) (by decide +kernel) rfl rfl
def zt21_79 (h : Nat) : ZB := [(0, [zf_ald 0, zf_getR 21 50, zf_ild 1, zf_inv h 19 35 1, zf_ist 2, zf_ald 0, zf_ald 0, zf_getR 21 50, zf_inv h 19 33 0, zf_if .eq 24, zf_ic 2, zf_go 34], 24),
  (24, [zf_ild 2, zf_ic (-1), zf_ic2 .ne 33, zf_ic 4, zf_go 34], 33),
  (33, [zf_ic 0], 34),
  (34, [zf_inv h 21 48 1, zf_if .ne 44, zf_ic 1, zf_go 45], 44),
  (44, [zf_ic 0], 45),
  (45, [zf_retz], 46)]
theorem zT21_79 (h : Nat) : zTab h 21 79 3 (zt21_79 h) := zTab.mk (ret := (some .boolean)) (bl := xk21_79) (by decide +kernel) (by decide +kernel) rfl rfl
def zt21_80 (h : Nat) : ZB := [(0, [zf_ald 0, zf_getI 21 4, zf_ic (-1), zf_ic2 .eq 12, zf_ild 1, zf_if .ge 16], 12),
  (12, [zf_ic (-1), zf_go 29], 16),
  (16, [zf_ald 0, zf_getR 21 3, zf_ald 0, zf_getI 21 4, zf_aldR, zf_ild 1, zf_inv h 20 55 1], 29),
  (29, [zf_reti], 30)]
theorem zT21_80 (h : Nat) : zTab h 21 80 2 (zt21_80 h) := zTab.mk (ret := (some .int)) (bl := xk21_80) (by decide +kernel) (by decide +kernel) rfl rfl
