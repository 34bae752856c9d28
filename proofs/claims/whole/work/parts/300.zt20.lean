/-! TABLES of what methods of class 20 ask -/
def zt20_0 (h : Nat) : ZB := [(0, [zf_ald 0, zf_ild 1, zf_inv h 20 25 1, zf_ist 4, zf_ild 4, zf_ild 1, zf_ic2 .ne 20, zf_ald 0, zf_ild 1, zf_inv h 20 9 1, zf_ic (-1), zf_reti], 20),
  (20, [zf_ald 0, zf_ild 1, zf_ild 4, zf_inv h 20 21 2, zf_ist 5, zf_ild 2, zf_ic (-1), zf_ic2 .ne 47, zf_ild 5, zf_if .ne 43, zf_ic 1, zf_go 53], 43),
  (43, [zf_ic 0, zf_go 53], 47),
  (47, [zf_ild 5, zf_ild 2, zf_inst h 20 4 2], 53),
  (53, [zf_ist 6, zf_ild 6, zf_if .eq 70, zf_ald 0, zf_getI 20 17, zf_ic 200, zf_ic2 .ne 77], 70),
  (70, [zf_ald 0, zf_ild 1, zf_inv h 20 9 1, zf_ic (-1), zf_reti], 77),
  (77, [zf_ald 0, zf_ic 0, zf_putI 20 20, zf_ald 0, zf_ic 0, zf_putI 20 21, zf_ald 0, zf_getI 20 15, zf_if .eq 114, zf_ald 0, zf_ald 0, zf_getI 20 17, zf_ild 5, zf_inv h 20 1 2, zf_ald 0, zf_getR 20 6, zf_ald 0, zf_getI 20 17, zf_ild 3, zf_astI], 114),
  (114, [zf_ild 5, zf_reti], 117)]
theorem zT20_0 (h : Nat) : zTab h 20 0 7 (zt20_0 h) := zTab.mk (ret := (some .int)) (bl := xk20_0) (by decide +kernel) (by decide +kernel) rfl rfl
def zt20_1 (h : Nat) : ZB := [(0, [zf_ic 0, zf_ist 3], 2),
  (2, [zf_ild 3, zf_ic 5, zf_ic2 .ge 24, zf_ald 0, zf_getR 20 7, zf_ic 5, zf_ild 1, zf_mul, zf_ild 3, zf_add, zf_lc 0, zf_astL, zf_inc 3 1, zf_go 2], 24),
  (24, [zf_ild 2, zf_ic 3, zf_ic2 .ne 38, zf_ald 0, zf_getR 20 7, zf_ic 5, zf_ild 1, zf_mul, zf_lc 1, zf_astL], 38),
  (38, [zf_ild 2, zf_ic 6, zf_ic2 .ne 57, zf_ald 0, zf_getR 20 7, zf_ic 5, zf_ild 1, zf_mul, zf_ic 2, zf_add, zf_lc 1270000, zf_astL], 57),
  (57, [zf_ald 0, zf_getR 20 8, zf_ic 2, zf_ild 1, zf_mul, zf_ic 0, zf_astI, zf_ald 0, zf_getR 20 8, zf_ic 2, zf_ild 1, zf_mul, zf_ic 1, zf_add, zf_ic 0, zf_astI, zf_ald 0, zf_getR 20 5, zf_ild 1, zf_ild 2, zf_astI, zf_ald 0, zf_getR 20 11, zf_ild 1, zf_ic 0, zf_astI, zf_ret], 92)]
theorem zT20_1 (h : Nat) : zTab h 20 1 4 (zt20_1 h) := zTab.mk (ret := none) (bl := xk20_1) (by decide +kernel) (by decide +kernel) rfl rfl
def zt20_2 (h : Nat) : ZB := [(0, [zf_ild 1, zf_ist 2], 2),
  (2, [zf_ald 0, zf_ild 2, zf_inv h 20 3 1, zf_inst h 20 15 1, zf_if .eq 19, zf_inc 2 1, zf_go 2], 19),
  (19, [zf_ild 2, zf_reti], 21)]
theorem zT20_2 (h : Nat) : zTab h 20 2 3 (zt20_2 h) := zTab.mk (ret := (some .int)) (bl := xk20_2) (by decide +kernel) (by decide +kernel) rfl rfl
def zt20_3 (h : Nat) : ZB := [(0, [zf_ild 1, zf_ald 0, zf_getI 20 3, zf_ic2 .ge 17, zf_ald 0, zf_getR 20 2, zf_ild 1, zf_aldI 100, zf_go 18], 17),
  (17, [zf_ic (-1)], 18),
  (18, [zf_reti], 19)]
theorem zT20_3 (h : Nat) : zTab h 20 3 2 (zt20_3 h) := zTab.mk (ret := (some .int)) (bl := xk20_3) (by decide +kernel) (by decide +kernel) rfl rfl
def zt20_4 (h : Nat) : ZB := [(0, [zf_ild 0, zf_sw 143 1 9 [52, 67, 78, 89, 89, 100, 67, 116, 132]], 52),
  (52, [zf_ild 1, zf_if .eq 61, zf_ild 1, zf_ic 1, zf_ic2 .ne 65], 61),
  (61, [zf_ic 1, zf_go 66], 65),
  (65, [zf_ic 0], 66),
  (66, [zf_retz], 67),
  (67, [zf_ild 1, zf_ic 1, zf_ic2 .ne 76, zf_ic 1, zf_go 77], 76),
  (76, [zf_ic 0], 77),
  (77, [zf_retz], 78),
  (78, [zf_ild 1, zf_ic 2, zf_ic2 .ne 87, zf_ic 1, zf_go 88], 87),
  (87, [zf_ic 0], 88),
  (88, [zf_retz], 89),
  (89, [zf_ild 1, zf_ic 3, zf_ic2 .ne 98, zf_ic 1, zf_go 99], 98),
  (98, [zf_ic 0], 99),
  (99, [zf_retz], 100),
  (100, [zf_ild 1, zf_ic 3, zf_ic2 .eq 110, zf_ild 1, zf_ic 1, zf_ic2 .ne 114], 110),
  (110, [zf_ic 1, zf_go 115], 114),
  (114, [zf_ic 0], 115),
  (115, [zf_retz], 116),
  (116, [zf_ild 1, zf_ic 1, zf_ic2 .eq 126, zf_ild 1, zf_ic 2, zf_ic2 .ne 130], 126),
  (126, [zf_ic 1, zf_go 131], 130),
  (130, [zf_ic 0], 131),
  (131, [zf_retz], 132),
  (132, [zf_ild 1, zf_ic 4, zf_ic2 .ge 141, zf_ic 1, zf_go 142], 141),
  (141, [zf_ic 0], 142),
  (142, [zf_retz], 143),
  (143, [zf_ic 0, zf_retz], 145)]
theorem zT20_4 (h : Nat) : zTab h 20 4 2 (zt20_4 h) := zTab.mk (ret := (some .boolean)) (bl := xk20_4) (by decide +kernel) (by decide +kernel) rfl rfl
def zt20_5 (h : Nat) : ZB := [(0, [zf_ild 2, zf_ist 3], 2),
  (2, [zf_ild 3, zf_ald 0, zf_getI 20 4, zf_ic2 .ge 28, zf_ald 0, zf_getR 20 6, zf_ild 3, zf_aldI 100, zf_ild 1, zf_ic2 .ne 22, zf_ild 3, zf_reti], 22),
  (22, [zf_inc 3 1, zf_go 2], 28),
  (28, [zf_ic (-1), zf_reti], 30)]
theorem zT20_5 (h : Nat) : zTab h 20 5 4 (zt20_5 h) := zTab.mk (ret := (some .int)) (bl := xk20_5) (by decide +kernel) (by decide +kernel) rfl rfl
def zt20_6 (h : Nat) : ZB := [(0, [zf_ald 0, zf_ic 0, zf_putI 20 0, zf_ald 0, zf_ic 0, zf_putI 20 3, zf_ret], 11)]
theorem zT20_6 (h : Nat) : zTab h 20 6 1 (zt20_6 h) := zTab.mk (ret := none) (bl := xk20_6) (by decide +kernel) (by decide +kernel) rfl rfl
def zt20_7 (h : Nat) : ZB := [(0, [zf_ild 1, zf_ist 3], 2),
  (2, [zf_ald 0, zf_ild 3, zf_inv h 20 3 1, zf_inst h 20 16 1, zf_if .eq 26, zf_ild 3, zf_ild 1, zf_sub, zf_ild 2, zf_ic2 .ge 26, zf_inc 3 1, zf_go 2], 26),
  (26, [zf_ild 3, zf_ild 1, zf_ic2 .eq 42, zf_ald 0, zf_ild 3, zf_inv h 20 3 1, zf_inst h 20 16 1, zf_if .eq 47], 42),
  (42, [zf_ald 0, zf_ild 3, zf_inv h 20 9 1], 47),
  (47, [zf_ild 3, zf_reti], 49)]
theorem zT20_7 (h : Nat) : zTab h 20 7 4 (zt20_7 h) := zTab.mk (ret := (some .int)) (bl := xk20_7) (by decide +kernel) (by decide +kernel) rfl rfl
def zt20_8 (h : Nat) : ZB := [(0, [zf_ild 1, zf_ist 2], 2),
  (2, [zf_ald 0, zf_ild 2, zf_inv h 20 3 1, zf_ic 46, zf_ic2 .ne 18, zf_inc 2 1, zf_go 2], 18),
  (18, [zf_ild 2, zf_ild 1, zf_sub, zf_reti], 22)]
theorem zT20_8 (h : Nat) : zTab h 20 8 3 (zt20_8 h) := zTab.mk (ret := (some .int)) (bl := xk20_8) (by decide +kernel) (by decide +kernel) rfl rfl
def zt20_9 (h : Nat) : ZB := [(0, [zf_ald 0, zf_getI 20 18, zf_ic (-1), zf_ic2 .ne 13, zf_ald 0, zf_ild 1, zf_putI 20 18], 13),
  (13, [zf_ret], 14)]
theorem zT20_9 (h : Nat) : zTab h 20 9 2 (zt20_9 h) := zTab.mk (ret := none) (bl := xk20_9) (by decide +kernel) (by decide +kernel) rfl rfl
def zt20_10 (h : Nat) : ZB := [(0, [zf_ild 0, zf_sw 193 1 8 [48, 67, 87, 97, 126, 146, 171, 182]], 48),
  (48, [zf_ild 1, zf_if .ne 56, zf_ic 2, zf_go 66], 56),
  (56, [zf_ild 1, zf_ic 1, zf_ic2 .ne 65, zf_ic 3, zf_go 66], 65),
  (65, [zf_ic 0], 66),
  (66, [zf_reti], 67),
  (67, [zf_ild 1, zf_ic 2, zf_ic2 .ge 76, zf_ic 1, zf_go 86], 76),
  (76, [zf_ild 1, zf_ic 2, zf_ic2 .ne 85, zf_ic 3, zf_go 86], 85),
  (85, [zf_ic 0], 86),
  (86, [zf_reti], 87),
  (87, [zf_ild 1, zf_if .ne 95, zf_ic 2, zf_go 96], 95),
  (95, [zf_ic 0], 96),
  (96, [zf_reti], 97),
  (97, [zf_ild 1, zf_ic 2, zf_ic2 .ge 106, zf_ic 1, zf_go 125], 106),
  (106, [zf_ild 1, zf_ic 2, zf_ic2 .ne 115, zf_ic 3, zf_go 125], 115),
  (115, [zf_ild 1, zf_ic 3, zf_ic2 .ne 124, zf_ic 2, zf_go 125], 124),
  (124, [zf_ic 0], 125),
  (125, [zf_reti], 126),
  (126, [zf_ild 1, zf_ic 3, zf_ic2 .ge 135, zf_ic 1, zf_go 145], 135),
  (135, [zf_ild 1, zf_ic 5, zf_ic2 .ge 144, zf_ic 2, zf_go 145], 144),
  (144, [zf_ic 0], 145),
  (145, [zf_reti], 146),
  (146, [zf_ild 1, zf_ic 2, zf_ic2 .lt 156, zf_ild 1, zf_ic 3, zf_ic2 .ne 160], 156),
  (156, [zf_ic 1, zf_go 170], 160),
  (160, [zf_ild 1, zf_ic 2, zf_ic2 .ne 169, zf_ic 3, zf_go 170], 169),
  (169, [zf_ic 0], 170),
  (170, [zf_reti], 171),
  (171, [zf_ild 1, zf_ic 4, zf_ic2 .ge 180, zf_ic 1, zf_go 181], 180),
  (180, [zf_ic 0], 181),
  (181, [zf_reti], 182),
  (182, [zf_ild 1, zf_ic 2, zf_ic2 .ge 191, zf_ic 3, zf_go 192], 191),
  (191, [zf_ic 0], 192),
  (192, [zf_reti], 193),
  (193, [zf_ic 0, zf_reti], 195)]
theorem zT20_10 (h : Nat) : zTab h 20 10 2 (zt20_10 h) := zTab.mk (ret := (some .int)) (bl := xk20_10) (by decide +kernel) (by decide +kernel) rfl rfl
def zt20_11 (h : Nat) : ZB := [(0, [zf_ild 1, zf_ist 3, zf_ic 0, zf_ist 4], 5),
  (5, [zf_ild 0, zf_ild 4, zf_inst h 20 10 2, zf_if .eq 56, zf_ild 1, zf_if .lt 56, zf_ild 0, zf_ild 4, zf_inst h 20 10 2, zf_ic 3, zf_ic2 .ne 32, zf_ic 1, zf_go 33], 32),
  (32, [zf_ic 0], 33),
  (33, [zf_ild 2, zf_ic2 .eq 40, zf_go 50], 40),
  (40, [zf_ild 3, zf_if .ne 47, zf_ild 4, zf_reti], 47),
  (47, [zf_inc 3 (-1)], 50),
  (50, [zf_inc 4 1, zf_go 5], 56),
  (56, [zf_ic (-1), zf_reti], 58)]
theorem zT20_11 (h : Nat) : zTab h 20 11 5 (zt20_11 h) := zTab.mk (ret := (some .int)) (bl := xk20_11) (by decide +kernel) (by decide +kernel) rfl rfl
def zt20_12 (h : Nat) : ZB := [(0, [zf_ic 0, zf_ist 2], 2),
  (2, [zf_ild 0, zf_ild 2, zf_inst h 20 10 2, zf_if .eq 16, zf_inc 2 1, zf_go 2], 16),
  (16, [zf_ild 0, zf_ic 4, zf_ic2 .ne 26, zf_ild 1, zf_ic 2, zf_ic2 .lt 37], 26),
  (26, [zf_ild 0, zf_ic 6, zf_ic2 .ne 43, zf_ild 1, zf_ic 3, zf_ic2 .ge 43], 37),
  (37, [zf_ild 2, zf_ic 1, zf_sub, zf_go 44], 43),
  (43, [zf_ild 2], 44),
  (44, [zf_reti], 45)]
theorem zT20_12 (h : Nat) : zTab h 20 12 3 (zt20_12 h) := zTab.mk (ret := (some .int)) (bl := xk20_12) (by decide +kernel) (by decide +kernel) rfl rfl
def zt20_13 (h : Nat) : ZB := [(0, [zf_ald 0, zf_ild 1, zf_putZ 20 15, zf_ald 0, zf_ic (-1), zf_putI 20 18, zf_ald 0, zf_ic 0, zf_putI 20 17, zf_ald 0, zf_ic 0, zf_putI 20 22, zf_ald 0, zf_getI 20 1, zf_if .ne 34, zf_ald 0, zf_inv h 20 35 0, zf_go 38], 34),
  (34, [zf_ald 0, zf_inv h 20 34 0], 38),
  (38, [zf_ret], 39)]
theorem zT20_13 (h : Nat) : zTab h 20 13 2 (zt20_13 h) := zTab.mk (ret := none) (bl := xk20_13) (by decide +kernel) (by decide +kernel) rfl rfl
def zt20_14 (h : Nat) : ZB := [(0, [zf_ald 0, zf_ini, zf_ald 0, zf_ic 4000, zf_newA 100, zf_putR 20 2, zf_ald 0, zf_ic 200, zf_newA 100, zf_putR 20 5, zf_ald 0, zf_ic 200, zf_newA 100, zf_putR 20 6, zf_ald 0, zf_ic 1000, zf_newA 101, zf_putR 20 7, zf_ald 0, zf_ic 400, zf_newA 100, zf_putR 20 8, zf_ald 0, zf_ic 16000, zf_newA 100, zf_putR 20 9, zf_ald 0, zf_ic 200, zf_newA 100, zf_putR 20 10, zf_ald 0, zf_ic 200, zf_newA 100, zf_putR 20 11, zf_ald 0, zf_ic 2000, zf_newA 100, zf_putR 20 12, zf_ald 0, zf_ic 201, zf_newA 100, zf_putR 20 23, zf_ald 0, zf_ic 201, zf_newA 100, zf_putR 20 24, zf_ald 0, zf_ic 110000, zf_newA 100, zf_putR 20 25, zf_ald 0, zf_ic 1, zf_putZ 20 27, zf_ald 0, zf_ic 0, zf_putI 20 0, zf_ald 0, zf_ild 1, zf_ic 1, zf_ic2 .ge 131, zf_ic 0, zf_go 132], 131),
  (131, [zf_ic 1], 132),
  (132, [zf_putI 20 1, zf_ret], 136)]
theorem zT20_14 (h : Nat) : zTab h 20 14 2 (zt20_14 h) := zTab.mk (ret := none) (bl := xk20_14) (by decide +kernel) (by decide +kernel) rfl rfl
def zt20_15 (h : Nat) : ZB := [(0, [zf_ild 0, zf_ic 32, zf_ic2 .eq 12, zf_ild 0, zf_ic 10, zf_ic2 .ne 16], 12),
  (12, [zf_ic 1, zf_go 17], 16),
  (16, [zf_ic 0], 17),
  (17, [zf_retz], 18)]
theorem zT20_15 (h : Nat) : zTab h 20 15 1 (zt20_15 h) := zTab.mk (ret := (some .boolean)) (bl := xk20_15) (by decide +kernel) (by decide +kernel) rfl rfl
def zt20_16 (h : Nat) : ZB := [(0, [zf_ild 0, zf_ic 48, zf_ic2 .lt 16, zf_ild 0, zf_ic 57, zf_ic2 .gt 16, zf_ic 1, zf_go 17], 16),
  (16, [zf_ic 0], 17),
  (17, [zf_retz], 18)]
theorem zT20_16 (h : Nat) : zTab h 20 16 1 (zt20_16 h) := zTab.mk (ret := (some .boolean)) (bl := xk20_16) (by decide +kernel) (by decide +kernel) rfl rfl
def zt20_17 (h : Nat) : ZB := [(0, [zf_ild 1, zf_if .lt 16, zf_ild 1, zf_ald 0, zf_getI 20 4, zf_ic2 .ge 16, zf_ic 1, zf_go 17], 16),
  (16, [zf_ic 0], 17),
  (17, [zf_retz], 18)]
theorem zT20_17 (h : Nat) : zTab h 20 17 2 (zt20_17 h) := zTab.mk (ret := (some .boolean)) (bl := xk20_17) (by decide +kernel) (by decide +kernel) rfl rfl
def zt20_18 (h : Nat) : ZB := [(0, [zf_ild 0, zf_ic 97, zf_ic2 .lt 16, zf_ild 0, zf_ic 122, zf_ic2 .gt 16, zf_ic 1, zf_go 17], 16),
  (16, [zf_ic 0], 17),
  (17, [zf_retz], 18)]
theorem zT20_18 (h : Nat) : zTab h 20 18 1 (zt20_18 h) := zTab.mk (ret := (some .boolean)) (bl := xk20_18) (by decide +kernel) (by decide +kernel) rfl rfl
def zt20_19 (h : Nat) : ZB := [(0, [zf_ild 1, zf_ist 3], 2),
  (2, [zf_ild 3, zf_ild 2, zf_ic2 .ge 84, zf_ald 0, zf_getI 20 18, zf_ic (-1), zf_ic2 .ne 84, zf_ald 0, zf_getI 20 22, zf_ic 2000, zf_ic2 .ne 33, zf_ald 0, zf_ild 3, zf_inv h 20 9 1, zf_go 78], 33),
  (33, [zf_ald 0, zf_getI 20 15, zf_if .eq 68, zf_ald 0, zf_getR 20 12, zf_ald 0, zf_getI 20 22, zf_ald 0, zf_getR 20 2, zf_ild 3, zf_aldI 100, zf_astI, zf_ald 0, zf_getR 20 11, zf_ald 0, zf_getI 20 17, zf_dup2, zf_aldI 100, zf_ic 1, zf_add, zf_astI], 68),
  (68, [zf_ald 0, zf_dup, zf_getI 20 22, zf_ic 1, zf_add, zf_putI 20 22], 78),
  (78, [zf_inc 3 1, zf_go 2], 84),
  (84, [zf_ret], 85)]
theorem zT20_19 (h : Nat) : zTab h 20 19 4 (zt20_19 h) := zTab.mk (ret := none) (bl := xk20_19) (by decide +kernel) (by decide +kernel) rfl rfl
def zt20_20 (h : Nat) : ZB := [(0, [zf_ald 0, zf_ald 0, zf_ild 1, zf_inv h 20 17 1, zf_if .eq 13, zf_ic 0, zf_go 14], 13),
  (13, [zf_ic 1], 14),
  (14, [zf_putI 20 0, zf_ald 0, zf_getI 20 0, zf_if .ne 33, zf_ald 0, zf_getR 20 5, zf_ild 1, zf_aldI 100, zf_go 34], 33),
  (33, [zf_ic 0], 34),
  (34, [zf_reti], 35)]
theorem zT20_20 (h : Nat) : zTab h 20 20 2 (zt20_20 h) := zTab.mk (ret := (some .int)) (bl := xk20_20) (by decide +kernel) (by decide +kernel) rfl rfl
def zt20_21 (h : Nat) : ZB := [(0, [zf_lc 0, zf_lst 3, zf_ild 1, zf_ist 5], 5),
  (5, [zf_ild 5, zf_ild 2, zf_ic2 .ge 44, zf_ild 2, zf_ild 1, zf_sub, zf_ic 7, zf_ic2 .ge 44, zf_lc 27, zf_lld 3, zf_lmul, zf_ald 0, zf_getR 20 2, zf_ild 5, zf_aldI 100, zf_i2l, zf_ladd, zf_lc 96, zf_lsub, zf_lst 3, zf_inc 5 1, zf_go 5], 44),
  (44, [zf_ic 0, zf_ist 5], 47),
  (47, [zf_ild 5, zf_ic 9, zf_ic2 .ge 73, zf_ild 5, zf_inst h 20 26 1, zf_lld 3, zf_lcmp, zf_if .ne 67, zf_ild 5, zf_reti], 67),
  (67, [zf_inc 5 1, zf_go 47], 73),
  (73, [zf_ic 9, zf_reti], 76)]
theorem zT20_21 (h : Nat) : zTab h 20 21 6 (zt20_21 h) := zTab.mk (ret := (some .int)) (bl := xk20_21) (by decide +kernel) (by decide +kernel) rfl rfl
def zt20_22 (h : Nat) : ZB := [(0, [zf_ild 0, zf_ild 1, zf_inst h 20 10 2, zf_ic 1, zf_ic2 .ne 13, zf_lc (-1000000000), zf_retl], 13),
  (13, [zf_ild 0, zf_ic 3, zf_ic2 .ne 22, zf_lc 1, zf_go 34], 22),
  (22, [zf_ild 0, zf_ic 5, zf_ic2 .ne 33, zf_lc (-360), zf_go 34], 33),
  (33, [zf_lc 0], 34),
  (34, [zf_retl], 35)]
theorem zT20_22 (h : Nat) : zTab h 20 22 2 (zt20_22 h) := zTab.mk (ret := (some .long)) (bl := xk20_22) (by decide +kernel) (by decide +kernel) rfl rfl
def zt20_23 (h : Nat) : ZB := [(0, [zf_ild 1, zf_ist 2], 2),
  (2, [zf_ild 2, zf_ald 0, zf_getI 20 3, zf_ic2 .ge 27, zf_ald 0, zf_getR 20 2, zf_ild 2, zf_aldI 100, zf_ic 10, zf_ic2 .eq 27, zf_inc 2 1, zf_go 2], 27),
  (27, [zf_ild 2, zf_reti], 29)]
theorem zT20_23 (h : Nat) : zTab h 20 23 3 (zt20_23 h) := zTab.mk (ret := (some .int)) (bl := xk20_23) (by decide +kernel) (by decide +kernel) rfl rfl
def zt20_24 (h : Nat) : ZB := [(0, [zf_ild 0, zf_ild 1, zf_inst h 20 10 2, zf_ic 1, zf_ic2 .ne 13, zf_lc 1000000000, zf_retl], 13),
  (13, [zf_ild 0, zf_ic 4, zf_ic2 .ne 24, zf_lc 9, zf_go 38], 24),
  (24, [zf_ild 0, zf_ic 5, zf_ic2 .ne 35, zf_lc 360, zf_go 38], 35),
  (35, [zf_lc 9999], 38),
  (38, [zf_retl], 39)]
theorem zT20_24 (h : Nat) : zTab h 20 24 2 (zt20_24 h) := zTab.mk (ret := (some .long)) (bl := xk20_24) (by decide +kernel) (by decide +kernel) rfl rfl
def zt20_25 (h : Nat) : ZB := [(0, [zf_ild 1, zf_ist 2], 2),
  (2, [zf_ald 0, zf_ild 2, zf_inv h 20 3 1, zf_inst h 20 18 1, zf_if .eq 19, zf_inc 2 1, zf_go 2], 19),
  (19, [zf_ild 2, zf_reti], 21)]
theorem zT20_25 (h : Nat) : zTab h 20 25 3 (zt20_25 h) := zTab.mk (ret := (some .int)) (bl := xk20_25) (by decide +kernel) (by decide +kernel) rfl rfl
def zt20_26 (h : Nat) : ZB := [(0, [zf_ild 0, zf_sw 154 0 7 [48, 62, 75, 90, 104, 117, 128, 141]], 48),
  (48, [zf_ic 4, zf_ic 5, zf_ic 19, zf_ic 9, zf_ic 7, zf_ic 14, zf_inst h 20 49 6, zf_retl], 62),
  (62, [zf_ic 19, zf_ic 8, zf_ic 5, zf_ic 5, zf_ic 20, zf_ic 0, zf_inst h 20 49 6, zf_retl], 75),
  (75, [zf_ic 19, zf_ic 25, zf_ic 13, zf_ic 2, zf_ic 15, zf_ic 12, zf_inst h 20 49 6, zf_retl], 90),
  (90, [zf_ic 21, zf_ic 14, zf_ic 9, zf_ic 20, zf_ic 0, zf_ic 0, zf_inst h 20 49 6, zf_retl], 104),
  (104, [zf_ic 16, zf_ic 9, zf_ic 14, zf_ic 0, zf_ic 0, zf_ic 0, zf_inst h 20 49 6, zf_retl], 117),
  (117, [zf_ic 1, zf_ic 18, zf_ic 3, zf_ic 0, zf_ic 0, zf_ic 0, zf_inst h 20 49 6, zf_retl], 128),
  (128, [zf_ic 14, zf_ic 15, zf_ic 20, zf_ic 5, zf_ic 0, zf_ic 0, zf_inst h 20 49 6, zf_retl], 141),
  (141, [zf_ic 23, zf_ic 9, zf_ic 18, zf_ic 5, zf_ic 0, zf_ic 0, zf_inst h 20 49 6, zf_retl], 154),
  (154, [zf_ic 6, zf_ic 9, zf_ic 5, zf_ic 12, zf_ic 4, zf_ic 0, zf_inst h 20 49 6, zf_retl], 167)]
theorem zT20_26 (h : Nat) : zTab h 20 26 1 (zt20_26 h) := zTab.mk (ret := (some .long)) (bl := xk20_26) (by decide +kernel) (by decide +kernel) rfl rfl
def zt20_27 (h : Nat) : ZB := [(0, [zf_ald 0, zf_ald 0, zf_ild 1, zf_inv h 20 17 1, zf_if .eq 28, zf_ald 0, zf_getR 20 5, zf_ild 1, zf_aldI 100, zf_ild 2, zf_ic 0, zf_inst h 20 11 3, zf_ic (-1), zf_ic2 .eq 28, zf_ic 0, zf_go 29], 28),
  (28, [zf_ic 1], 29),
  (29, [zf_putI 20 0, zf_ald 0, zf_getI 20 0, zf_if .ne 52, zf_ald 0, zf_getR 20 7, zf_ic 5, zf_ild 1, zf_mul, zf_ild 2, zf_add, zf_aldL, zf_go 53], 52),
  (52, [zf_lc 0], 53),
  (53, [zf_retl], 54)]
theorem zT20_27 (h : Nat) : zTab h 20 27 3 (zt20_27 h) := zTab.mk (ret := (some .long)) (bl := xk20_27) (by decide +kernel) (by decide +kernel) rfl rfl
def zt20_28 (h : Nat) : ZB := [(0, [zf_ild 2, zf_ic 100, zf_ic2 .ne 11, zf_ald 0, zf_ild 1, zf_inv h 20 9 1], 11),
  (11, [zf_ald 0, zf_ild 1, zf_ic 1, zf_add, zf_inv h 20 2 1, zf_ist 3, zf_ald 0, zf_getI 20 18, zf_ic (-1), zf_ic2 .eq 31, zf_ic (-1), zf_go 68], 31),
  (31, [zf_ald 0, zf_ild 3, zf_ild 2, zf_if .ne 41, zf_ic (-1), zf_go 49], 41),
  (41, [zf_ald 0, zf_getR 20 24, zf_ild 2, zf_ic 1, zf_sub, zf_aldI 100], 49),
  (49, [zf_ild 2, zf_if .ne 57, zf_ic (-1), zf_go 65], 57),
  (57, [zf_ald 0, zf_getR 20 23, zf_ild 2, zf_ic 1, zf_sub, zf_aldI 100], 65),
  (65, [zf_inv h 20 0 3], 68),
  (68, [zf_ist 4, zf_ild 4, zf_ic (-1), zf_ic2 .ne 78, zf_ild 1, zf_reti], 78),
  (78, [zf_ald 0, zf_ild 3, zf_inv h 20 25 1, zf_ist 5, zf_ild 4, zf_ic 9, zf_ic2 .ne 141, zf_ald 0, zf_getI 20 15, zf_if .eq 112, zf_ald 0, zf_getR 20 10, zf_ald 0, zf_getI 20 17, zf_ald 0, zf_getI 20 22, zf_astI], 112),
  (112, [zf_ald 0, zf_ild 1, zf_ild 5, zf_inv h 20 19 2, zf_ald 0, zf_ild 5, zf_ild 2, zf_inv h 20 30 2, zf_ist 5, zf_ald 0, zf_dup, zf_getI 20 17, zf_ic 1, zf_add, zf_putI 20 17, zf_ild 5, zf_reti], 141),
  (141, [zf_ild 4, zf_if .ne 156, zf_ald 0, zf_ild 5, zf_ic 1, zf_inv h 20 40 2, zf_go 165], 156),
  (156, [zf_ald 0, zf_ild 4, zf_ild 5, zf_ic 1, zf_inv h 20 54 3], 165),
  (165, [zf_ist 5, zf_ald 0, zf_getR 20 23, zf_ild 2, zf_ald 0, zf_getI 20 17, zf_astI, zf_ald 0, zf_getR 20 24, zf_ild 2, zf_ild 4, zf_astI, zf_ald 0, zf_dup, zf_getI 20 17, zf_ic 1, zf_add, zf_putI 20 17, zf_ald 0, zf_ild 2, zf_ic 1, zf_add, zf_putI 20 29, zf_ild 5, zf_reti], 205)]
theorem zT20_28 (h : Nat) : zTab h 20 28 6 (zt20_28 h) := zTab.mk (ret := (some .int)) (bl := xk20_28) (by decide +kernel) (by decide +kernel) rfl rfl
def zt20_29 (h : Nat) : ZB := [(0, [zf_ald 0, zf_ald 0, zf_ild 1, zf_inv h 20 17 1, zf_if .eq 13, zf_ic 0, zf_go 14], 13),
  (13, [zf_ic 1], 14),
  (14, [zf_putI 20 0, zf_ald 0, zf_getI 20 0, zf_if .ne 33, zf_ald 0, zf_getR 20 6, zf_ild 1, zf_aldI 100, zf_go 34], 33),
  (33, [zf_ic 0], 34),
  (34, [zf_reti], 35)]
theorem zT20_29 (h : Nat) : zTab h 20 29 2 (zt20_29 h) := zTab.mk (ret := (some .int)) (bl := xk20_29) (by decide +kernel) (by decide +kernel) rfl rfl
def zt20_30 (h : Nat) : ZB := [(0, [zf_ic 1, zf_ist 3, zf_ild 1, zf_ist 4], 5),
  (5, [zf_ald 0, zf_getI 20 18, zf_ic (-1), zf_ic2 .ne 124, zf_ild 3, zf_if .le 124, zf_ald 0, zf_ild 4, zf_inv h 20 3 1, zf_ist 5, zf_ild 5, zf_ic (-1), zf_ic2 .eq 46, zf_ild 5, zf_ic 40, zf_ic2 .ne 55, zf_ild 2, zf_ild 3, zf_add, zf_ic 100, zf_ic2 .ne 55], 46),
  (46, [zf_ald 0, zf_ild 4, zf_inv h 20 9 1, zf_ild 4, zf_reti], 55),
  (55, [zf_ild 3, zf_ild 5, zf_ic 40, zf_ic2 .ne 67, zf_ic 1, zf_go 79], 67),
  (67, [zf_ild 5, zf_ic 41, zf_ic2 .ne 78, zf_ic (-1), zf_go 79], 78),
  (78, [zf_ic 0], 79),
  (79, [zf_add, zf_ist 3, zf_ald 0, zf_ild 4, zf_ild 4, zf_ic 1, zf_add, zf_inv h 20 19 2, zf_ild 5, zf_ic 34, zf_ic2 .ne 115, zf_ald 0, zf_getI 20 18, zf_ic (-1), zf_ic2 .ne 115, zf_ald 0, zf_ild 4, zf_inv h 20 31 1, zf_go 119], 115),
  (115, [zf_ild 4, zf_ic 1, zf_add], 119),
  (119, [zf_ist 4, zf_go 5], 124),
  (124, [zf_ild 4, zf_reti], 127)]
theorem zT20_30 (h : Nat) : zTab h 20 30 6 (zt20_30 h) := zTab.mk (ret := (some .int)) (bl := xk20_30) (by decide +kernel) (by decide +kernel) rfl rfl
def zt20_31 (h : Nat) : ZB := [(0, [zf_ild 1, zf_ic 1, zf_add, zf_ist 2], 4),
  (4, [zf_ald 0, zf_getI 20 18, zf_ic (-1), zf_ic2 .ne 135, zf_ald 0, zf_ild 2, zf_inv h 20 3 1, zf_ic 34, zf_ic2 .eq 135, zf_ald 0, zf_ild 2, zf_inv h 20 3 1, zf_ic 92, zf_ic2 .ne 36, zf_ic 1, zf_go 37], 36),
  (36, [zf_ic 0], 37),
  (37, [zf_ist 3, zf_ald 0, zf_ild 2, zf_inv h 20 3 1, zf_ic (-1), zf_ic2 .ne 55, zf_ald 0, zf_ild 2, zf_inv h 20 9 1, zf_go 63], 55),
  (55, [zf_ald 0, zf_ild 2, zf_ild 2, zf_ic 1, zf_add, zf_inv h 20 19 2], 63),
  (63, [zf_ild 3, zf_if .eq 98, zf_ald 0, zf_ild 2, zf_ic 1, zf_add, zf_inv h 20 3 1, zf_ic 34, zf_ic2 .eq 98, zf_ald 0, zf_ild 2, zf_ic 1, zf_add, zf_inv h 20 3 1, zf_ic 92, zf_ic2 .eq 98, zf_ald 0, zf_ild 2, zf_ic 1, zf_add, zf_inv h 20 9 1], 98),
  (98, [zf_ild 3, zf_if .eq 120, zf_ald 0, zf_getI 20 18, zf_ic (-1), zf_ic2 .ne 120, zf_ald 0, zf_ild 2, zf_ic 1, zf_add, zf_ild 2, zf_ic 2, zf_add, zf_inv h 20 19 2], 120),
  (120, [zf_ild 2, zf_ild 3, zf_if .eq 129, zf_ic 2, zf_go 130], 129),
  (129, [zf_ic 1], 130),
  (130, [zf_add, zf_ist 2, zf_go 4], 135),
  (135, [zf_ald 0, zf_getI 20 18, zf_ic (-1), zf_ic2 .ne 151, zf_ald 0, zf_ild 2, zf_ild 2, zf_ic 1, zf_add, zf_inv h 20 19 2], 151),
  (151, [zf_ild 2, zf_ic 1, zf_add, zf_reti], 155)]
theorem zT20_31 (h : Nat) : zTab h 20 31 4 (zt20_31 h) := zTab.mk (ret := (some .int)) (bl := xk20_31) (by decide +kernel) (by decide +kernel) rfl rfl
def zt20_32 (h : Nat) : ZB := [(0, [zf_ald 0, zf_ic 0, zf_putI 20 0, zf_ald 0, zf_ic 0, zf_inv h 20 13 1, zf_ald 0, zf_getI 20 18, zf_ic (-1), zf_ic2 .eq 25, zf_ic (-1), zf_ald 0, zf_getI 20 18, zf_sub, zf_reti], 25),
  (25, [zf_ald 0, zf_ic 1, zf_inv h 20 13 1, zf_ald 0, zf_ald 0, zf_getI 20 17, zf_putI 20 4, zf_ald 0, zf_ald 0, zf_getI 20 22, zf_putI 20 13, zf_ald 0, zf_ald 0, zf_getI 20 16, zf_putI 20 14, zf_ald 0, zf_ic 1, zf_putZ 20 27, zf_ald 0, zf_getI 20 4, zf_reti], 64)]
theorem zT20_32 (h : Nat) : zTab h 20 32 1 (zt20_32 h) := zTab.mk (ret := (some .int)) (bl := xk20_32) (by decide +kernel) (by decide +kernel) rfl rfl
def zt20_33 (h : Nat) : ZB := [(0, [zf_ild 1, zf_ild 2, zf_add, zf_ist 3, zf_ald 0, zf_ild 3, zf_ild 2, zf_if .ne 14, zf_ic (-1), zf_go 22], 14),
  (14, [zf_ald 0, zf_getR 20 24, zf_ild 2, zf_ic 1, zf_sub, zf_aldI 100], 22),
  (22, [zf_ild 2, zf_if .ne 30, zf_ic (-1), zf_go 38], 30),
  (30, [zf_ald 0, zf_getR 20 23, zf_ild 2, zf_ic 1, zf_sub, zf_aldI 100], 38),
  (38, [zf_inv h 20 0 3, zf_ist 4, zf_ild 4, zf_ic (-1), zf_ic2 .ne 51, zf_ild 1, zf_reti], 51),
  (51, [zf_ald 0, zf_ild 3, zf_inv h 20 25 1, zf_ist 5, zf_ild 4, zf_ic 9, zf_ic2 .ne 72, zf_ald 0, zf_ild 3, zf_ild 2, zf_inv h 20 38 2, zf_reti], 72),
  (72, [zf_ild 4, zf_if .ne 87, zf_ald 0, zf_ild 5, zf_ic 0, zf_inv h 20 40 2, zf_go 96], 87),
  (87, [zf_ald 0, zf_ild 4, zf_ild 5, zf_ic 0, zf_inv h 20 54 3], 96),
  (96, [zf_ist 5, zf_ald 0, zf_ild 5, zf_inv h 20 3 1, zf_ic 10, zf_ic2 .eq 115, zf_ald 0, zf_ild 5, zf_inv h 20 9 1], 115),
  (115, [zf_ald 0, zf_getR 20 23, zf_ild 2, zf_ald 0, zf_getI 20 17, zf_astI, zf_ald 0, zf_getR 20 24, zf_ild 2, zf_ild 4, zf_astI, zf_ald 0, zf_ild 2, zf_putI 20 30, zf_ald 0, zf_dup, zf_getI 20 17, zf_ic 1, zf_add, zf_putI 20 17, zf_ild 5, zf_ic 1, zf_add, zf_reti], 153)]
theorem zT20_33 (h : Nat) : zTab h 20 33 6 (zt20_33 h) := zTab.mk (ret := (some .int)) (bl := xk20_33) (by decide +kernel) (by decide +kernel) rfl rfl
def zt20_34 (h : Nat) : ZB := [(0, [zf_ic 0, zf_ist 1, zf_ald 0, zf_ic (-1), zf_putI 20 30], 7),
  (7, [zf_ald 0, zf_getI 20 18, zf_ic (-1), zf_ic2 .ne 84, zf_ild 1, zf_ald 0, zf_getI 20 3, zf_ic2 .lt 27, zf_ild 1, zf_if .ne 84], 27),
  (27, [zf_ald 0, zf_ild 1, zf_inv h 20 8 1, zf_ist 2, zf_ild 2, zf_ald 0, zf_getI 20 30, zf_ic 1, zf_add, zf_ic2 .le 58, zf_ald 0, zf_ild 1, zf_ald 0, zf_getI 20 30, zf_add, zf_ic 1, zf_add, zf_inv h 20 9 1, zf_go 81], 58),
  (58, [zf_ild 2, zf_if .ne 74, zf_ild 1, zf_if .le 74, zf_ald 0, zf_ild 1, zf_inv h 20 9 1, zf_go 81], 74),
  (74, [zf_ald 0, zf_ild 1, zf_ild 2, zf_inv h 20 33 2, zf_ist 1], 81),
  (81, [zf_go 7], 84),
  (84, [zf_ret], 85)]
theorem zT20_34 (h : Nat) : zTab h 20 34 3 (zt20_34 h) := zTab.mk (ret := none) (bl := xk20_34) (by decide +kernel) (by decide +kernel) rfl rfl
def zt20_35 (h : Nat) : ZB := [(0, [zf_ald 0, zf_ic 0, zf_inv h 20 2 1, zf_ist 1, zf_ald 0, zf_ic 0, zf_putI 20 29, zf_ald 0, zf_ild 1, zf_inv h 20 3 1, zf_ic 40, zf_ic2 .eq 26, zf_ald 0, zf_ild 1, zf_inv h 20 9 1], 26),
  (26, [zf_ald 0, zf_getI 20 18, zf_ic (-1), zf_ic2 .ne 41, zf_ald 0, zf_ild 1, zf_ic 0, zf_inv h 20 28 2, zf_ist 1], 41),
  (41, [zf_ald 0, zf_getI 20 18, zf_ic (-1), zf_ic2 .ne 119, zf_ald 0, zf_getI 20 29, zf_if .le 119, zf_ald 0, zf_ild 1, zf_inv h 20 2 1, zf_ist 1, zf_ald 0, zf_ild 1, zf_inv h 20 3 1, zf_ic 40, zf_ic2 .ne 85, zf_ald 0, zf_ild 1, zf_ald 0, zf_getI 20 29, zf_inv h 20 28 2, zf_ist 1, zf_go 41], 85),
  (85, [zf_ald 0, zf_ild 1, zf_inv h 20 3 1, zf_ic 41, zf_ic2 .ne 111, zf_ald 0, zf_dup, zf_getI 20 29, zf_ic 1, zf_sub, zf_putI 20 29, zf_inc 1 1, zf_go 41], 111),
  (111, [zf_ald 0, zf_ild 1, zf_inv h 20 9 1, zf_go 41], 119),
  (119, [zf_ald 0, zf_ild 1, zf_inv h 20 2 1, zf_ist 1, zf_ild 1, zf_ald 0, zf_getI 20 3, zf_ic2 .ge 138, zf_ald 0, zf_ild 1, zf_inv h 20 9 1], 138),
  (138, [zf_ret], 139)]
theorem zT20_35 (h : Nat) : zTab h 20 35 2 (zt20_35 h) := zTab.mk (ret := none) (bl := xk20_35) (by decide +kernel) (by decide +kernel) rfl rfl
def zt20_36 (h : Nat) : ZB := [(0, [zf_ald 0, zf_ild 1, zf_inv h 20 3 1, zf_ic 45, zf_ic2 .ne 16, zf_ild 1, zf_ic 1, zf_add, zf_go 17], 16),
  (16, [zf_ild 1], 17),
  (17, [zf_ist 7, zf_ald 0, zf_ild 7, zf_ic 4, zf_inv h 20 7 2, zf_ist 8, zf_ald 0, zf_getI 20 18, zf_ic (-1), zf_ic2 .ne 47, zf_ald 0, zf_ild 7, zf_ild 8, zf_inv h 20 53 2, zf_go 48], 47),
  (47, [zf_lc 0], 48),
  (48, [zf_lst 9, zf_ild 2, zf_if .eq 62, zf_lc 1000000, zf_lld 9, zf_lmul, zf_lst 9], 62),
  (62, [zf_ild 2, zf_if .eq 158, zf_ald 0, zf_getI 20 18, zf_ic (-1), zf_ic2 .ne 158, zf_ald 0, zf_ild 8, zf_inv h 20 3 1, zf_ic 46, zf_ic2 .ne 158, zf_ald 0, zf_ild 8, zf_ic 1, zf_add, zf_ic 6, zf_inv h 20 7 2, zf_ist 11, zf_ald 0, zf_getI 20 18, zf_ic (-1), zf_ic2 .ne 154, zf_ald 0, zf_ild 8, zf_ic 1, zf_add, zf_ild 11, zf_inv h 20 53 2, zf_lst 12, zf_ild 11, zf_ild 8, zf_sub, zf_ic 1, zf_sub, zf_ist 14], 126),
  (126, [zf_ild 14, zf_ic 6, zf_ic2 .ge 147, zf_lc 10, zf_lld 12, zf_lmul, zf_lst 12, zf_inc 14 1, zf_go 126], 147),
  (147, [zf_lld 9, zf_lld 12, zf_ladd, zf_lst 9], 154),
  (154, [zf_ild 11, zf_ist 8], 158),
  (158, [zf_ild 7, zf_ild 1, zf_ic2 .le 171, zf_lc 0, zf_lld 9, zf_lsub, zf_go 173], 171),
  (171, [zf_lld 9], 173),
  (173, [zf_lst 9, zf_lld 9, zf_lld 3, zf_lcmp, zf_if .lt 190, zf_lld 9, zf_lld 5, zf_lcmp, zf_if .le 195], 190),
  (190, [zf_ald 0, zf_ild 1, zf_inv h 20 9 1], 195),
  (195, [zf_ald 0, zf_lld 9, zf_putL 20 28, zf_ild 8, zf_reti], 204)]
theorem zT20_36 (h : Nat) : zTab h 20 36 15 (zt20_36 h) := zTab.mk (ret := (some .int)) (bl := xk20_36) (by decide +kernel) (by decide +kernel) rfl rfl
def zt20_37 (h : Nat) : ZB := [(0, [zf_ald 0, zf_ild 1, zf_inv h 20 3 1, zf_ic 34, zf_ic2 .eq 17, zf_ald 0, zf_ild 1, zf_inv h 20 9 1, zf_ild 1, zf_reti], 17),
  (17, [zf_ild 1, zf_ic 1, zf_add, zf_ist 2, zf_ic 0, zf_ist 3], 23),
  (23, [zf_ald 0, zf_getI 20 18, zf_ic (-1), zf_ic2 .ne 183, zf_ald 0, zf_ild 2, zf_inv h 20 3 1, zf_ic 34, zf_ic2 .eq 183, zf_ald 0, zf_ild 2, zf_inv h 20 3 1, zf_ic 92, zf_ic2 .ne 55, zf_ic 1, zf_go 56], 55),
  (55, [zf_ic 0], 56),
  (56, [zf_ist 4, zf_ild 4, zf_if .eq 73, zf_ald 0, zf_ild 2, zf_ic 1, zf_add, zf_inv h 20 3 1, zf_go 78], 73),
  (73, [zf_ald 0, zf_ild 2, zf_inv h 20 3 1], 78),
  (78, [zf_ist 5, zf_ild 3, zf_ic 40, zf_ic2 .eq 96, zf_ald 0, zf_ild 2, zf_inv h 20 3 1, zf_ic 32, zf_ic2 .ge 104], 96),
  (96, [zf_ald 0, zf_ild 2, zf_inv h 20 9 1, zf_go 180], 104),
  (104, [zf_ild 4, zf_if .eq 133, zf_ild 5, zf_ic 34, zf_ic2 .eq 133, zf_ild 5, zf_ic 92, zf_ic2 .eq 133, zf_ald 0, zf_ild 2, zf_ic 1, zf_add, zf_inv h 20 9 1, zf_go 180], 133),
  (133, [zf_ald 0, zf_getI 20 15, zf_if .eq 164, zf_ald 0, zf_getR 20 9, zf_ic 80, zf_ald 0, zf_getI 20 17, zf_mul, zf_ic 40, zf_ald 0, zf_getI 20 21, zf_mul, zf_add, zf_ild 3, zf_add, zf_ild 5, zf_astI], 164),
  (164, [zf_inc 3 1, zf_ild 2, zf_ild 4, zf_if .eq 177, zf_ic 2, zf_go 178], 177),
  (177, [zf_ic 1], 178),
  (178, [zf_add, zf_ist 2], 180),
  (180, [zf_go 23], 183),
  (183, [zf_ald 0, zf_getI 20 15, zf_if .eq 207, zf_ald 0, zf_getR 20 8, zf_ic 2, zf_ald 0, zf_getI 20 17, zf_mul, zf_ald 0, zf_getI 20 21, zf_add, zf_ild 3, zf_astI], 207),
  (207, [zf_ild 2, zf_ic 1, zf_add, zf_reti], 211)]
theorem zT20_37 (h : Nat) : zTab h 20 37 6 (zt20_37 h) := zTab.mk (ret := (some .int)) (bl := xk20_37) (by decide +kernel) (by decide +kernel) rfl rfl
def zt20_38 (h : Nat) : ZB := [(0, [zf_ald 0, zf_getI 20 15, zf_if .eq 20, zf_ald 0, zf_getR 20 10, zf_ald 0, zf_getI 20 17, zf_ald 0, zf_getI 20 22, zf_astI], 20),
  (20, [zf_ald 0, zf_ild 1, zf_inv h 20 23 1, zf_ist 3, zf_ald 0, zf_ild 1, zf_ild 3, zf_inv h 20 19 2], 32),
  (32, [zf_ald 0, zf_getI 20 18, zf_ic (-1), zf_ic2 .ne 81, zf_ild 3, zf_ald 0, zf_getI 20 3, zf_ic2 .ge 81, zf_ald 0, zf_ild 3, zf_ic 1, zf_add, zf_inv h 20 8 1, zf_ild 2, zf_ic2 .le 81, zf_ald 0, zf_ild 3, zf_ic 1, zf_add, zf_inv h 20 23 1, zf_ist 4, zf_ald 0, zf_ild 3, zf_ild 4, zf_inv h 20 19 2, zf_ild 4, zf_ist 3, zf_go 32], 81),
  (81, [zf_ild 3, zf_ald 0, zf_getI 20 3, zf_ic2 .ne 94, zf_ald 0, zf_ild 3, zf_inv h 20 9 1], 94),
  (94, [zf_ald 0, zf_dup, zf_getI 20 17, zf_ic 1, zf_add, zf_putI 20 17, zf_ild 3, zf_ic 1, zf_add, zf_reti], 108)]
theorem zT20_38 (h : Nat) : zTab h 20 38 5 (zt20_38 h) := zTab.mk (ret := (some .int)) (bl := xk20_38) (by decide +kernel) (by decide +kernel) rfl rfl
def zt20_39 (h : Nat) : ZB := [(0, [zf_ild 1, zf_ild 2, zf_inst h 20 10 2, zf_ist 4, zf_ild 4, zf_ic 3, zf_ic2 .ne 33, zf_ald 0, zf_ild 3, zf_inv h 20 37 1, zf_ist 5, zf_ald 0, zf_dup, zf_getI 20 21, zf_ic 1, zf_add, zf_putI 20 21, zf_go 98], 33),
  (33, [zf_ald 0, zf_ild 3, zf_ild 4, zf_ic 1, zf_ic2 .ne 45, zf_ic 1, zf_go 46], 45),
  (45, [zf_ic 0], 46),
  (46, [zf_ild 1, zf_ild 2, zf_inst h 20 22 2, zf_ild 1, zf_ild 2, zf_inst h 20 24 2, zf_inv h 20 36 4, zf_ist 5, zf_ald 0, zf_getI 20 15, zf_if .eq 88, zf_ald 0, zf_getR 20 7, zf_ic 5, zf_ald 0, zf_getI 20 17, zf_mul, zf_ald 0, zf_getI 20 20, zf_add, zf_ald 0, zf_getL 20 28, zf_astL], 88),
  (88, [zf_ald 0, zf_dup, zf_getI 20 20, zf_ic 1, zf_add, zf_putI 20 20], 98),
  (98, [zf_ild 5, zf_reti], 101)]
theorem zT20_39 (h : Nat) : zTab h 20 39 6 (zt20_39 h) := zTab.mk (ret := (some .int)) (bl := xk20_39) (by decide +kernel) (by decide +kernel) rfl rfl
def zt20_40 (h : Nat) : ZB := [(0, [zf_ald 0, zf_ild 1, zf_ild 2, zf_inv h 20 48 2, zf_ist 3, zf_ald 0, zf_getI 20 18, zf_ic (-1), zf_ic2 .eq 17, zf_ild 3, zf_reti], 17),
  (17, [zf_ald 0, zf_ild 3, zf_ic 0, zf_lc 1, zf_lc 3, zf_inv h 20 36 4, zf_ist 4, zf_ald 0, zf_ald 0, zf_getL 20 28, zf_l2i, zf_putI 20 16, zf_ild 4, zf_reti], 41)]
theorem zT20_40 (h : Nat) : zTab h 20 40 5 (zt20_40 h) := zTab.mk (ret := (some .int)) (bl := xk20_40) (by decide +kernel) (by decide +kernel) rfl rfl
def zt20_41 (h : Nat) : ZB := [(0, [zf_ald 0, zf_getR 20 25, zf_ald 0, zf_getI 20 26, zf_ild 1, zf_astI, zf_ald 0, zf_dup, zf_getI 20 26, zf_ic 1, zf_add, zf_putI 20 26, zf_ret], 21)]
theorem zT20_41 (h : Nat) : zTab h 20 41 2 (zt20_41 h) := zTab.mk (ret := none) (bl := xk20_41) (by decide +kernel) (by decide +kernel) rfl rfl
def zt20_42 (h : Nat) : ZB := [(0, [zf_ic 0, zf_ist 2], 2),
  (2, [zf_ild 2, zf_ild 1, zf_ic2 .ge 31, zf_ald 0, zf_ald 0, zf_getI 20 1, zf_if .ne 20, zf_ic 32, zf_go 22], 20),
  (20, [zf_ic 46], 22),
  (22, [zf_inv h 20 41 1, zf_inc 2 1, zf_go 2], 31),
  (31, [zf_ret], 32)]
theorem zT20_42 (h : Nat) : zTab h 20 42 3 (zt20_42 h) := zTab.mk (ret := none) (bl := xk20_42) (by decide +kernel) (by decide +kernel) rfl rfl
def zt20_43 (h : Nat) : ZB := [(0, [zf_lld 1, zf_lc 0, zf_lcmp, zf_if .ge 12, zf_lc 0, zf_lld 1, zf_lsub, zf_go 13], 12),
  (12, [zf_lld 1], 13),
  (13, [zf_lst 3, zf_ald 0, zf_lld 3, zf_lc 1000000, zf_ldiv, zf_inv h 20 47 1, zf_lld 3, zf_lc 1000000, zf_lrem, zf_lst 3, zf_lld 3, zf_lc 0, zf_lcmp, zf_if .le 41, zf_ald 0, zf_ic 46, zf_inv h 20 41 1], 41),
  (41, [zf_lc 100000, zf_lst 5], 46),
  (46, [zf_lld 3, zf_lc 0, zf_lcmp, zf_if .le 80, zf_ald 0, zf_lld 3, zf_lld 5, zf_ldiv, zf_l2i, zf_ic 48, zf_add, zf_inv h 20 41 1, zf_lld 3, zf_lld 5, zf_lrem, zf_lst 3, zf_lld 5, zf_lc 10, zf_ldiv, zf_lst 5, zf_go 46], 80),
  (80, [zf_ret], 81)]
theorem zT20_43 (h : Nat) : zTab h 20 43 7 (zt20_43 h) := zTab.mk (ret := none) (bl := xk20_43) (by decide +kernel) (by decide +kernel) rfl rfl
def zt20_44 (h : Nat) : ZB := [(0, [zf_ild 1, zf_inst h 20 26 1, zf_lst 2, zf_lc 1, zf_lst 4], 8),
  (8, [zf_lld 2, zf_lld 4, zf_ldiv, zf_lc 27, zf_lcmp, zf_if .lt 30, zf_lc 27, zf_lld 4, zf_lmul, zf_lst 4, zf_go 8], 30),
  (30, [zf_lld 4, zf_lc 0, zf_lcmp, zf_if .le 64, zf_ald 0, zf_lld 2, zf_lld 4, zf_ldiv, zf_lc 27, zf_lrem, zf_l2i, zf_ic 96, zf_add, zf_inv h 20 41 1, zf_lld 4, zf_lc 27, zf_ldiv, zf_lst 4, zf_go 30], 64),
  (64, [zf_ret], 65)]
theorem zT20_44 (h : Nat) : zTab h 20 44 6 (zt20_44 h) := zTab.mk (ret := none) (bl := xk20_44) (by decide +kernel) (by decide +kernel) rfl rfl
def zt20_45 (h : Nat) : ZB := [(0, [zf_ald 0, zf_getR 20 5, zf_ild 1, zf_aldI 100, zf_ic 9, zf_ic2 .ne 47, zf_ic 0, zf_ist 2], 13),
  (13, [zf_ild 2, zf_ald 0, zf_getR 20 11, zf_ild 1, zf_aldI 100, zf_ic2 .ge 46, zf_ald 0, zf_ald 0, zf_getR 20 12, zf_ald 0, zf_getR 20 10, zf_ild 1, zf_aldI 100, zf_ild 2, zf_add, zf_aldI 100, zf_inv h 20 41 1, zf_inc 2 1, zf_go 13], 46),
  (46, [zf_ret], 47),
  (47, [zf_ald 0, zf_getI 20 1, zf_if .ne 60, zf_ald 0, zf_ic 40, zf_inv h 20 41 1], 60),
  (60, [zf_ald 0, zf_ald 0, zf_getR 20 5, zf_ild 1, zf_aldI 100, zf_inv h 20 44 1, zf_ald 0, zf_getR 20 5, zf_ild 1, zf_aldI 100, zf_if .ne 91, zf_ald 0, zf_ic 32, zf_inv h 20 41 1, zf_ald 0, zf_ic 51, zf_inv h 20 41 1], 91),
  (91, [zf_ic 0, zf_ist 2, zf_ic 0, zf_ist 3, zf_ic 0, zf_ist 4], 98),
  (98, [zf_ald 0, zf_getR 20 5, zf_ild 1, zf_aldI 100, zf_ild 4, zf_inst h 20 10 2, zf_if .eq 218, zf_ald 0, zf_ic 32, zf_inv h 20 41 1, zf_ald 0, zf_getR 20 5, zf_ild 1, zf_aldI 100, zf_ild 4, zf_inst h 20 10 2, zf_ist 5, zf_ild 5, zf_ic 3, zf_ic2 .ne 149, zf_ald 0, zf_ild 1, zf_ild 3, zf_inv h 20 46 2, zf_inc 3 1, zf_go 212], 149),
  (149, [zf_ald 0, zf_getR 20 7, zf_ic 5, zf_ild 1, zf_mul, zf_ild 2, zf_add, zf_aldL, zf_lst 6, zf_lld 6, zf_lc 0, zf_lcmp, zf_if .ge 174, zf_ald 0, zf_ic 45, zf_inv h 20 41 1], 174),
  (174, [zf_ild 5, zf_ic 1, zf_ic2 .ne 189, zf_ald 0, zf_lld 6, zf_inv h 20 43 1, zf_go 209], 189),
  (189, [zf_ald 0, zf_lld 6, zf_lc 0, zf_lcmp, zf_if .ge 204, zf_lc 0, zf_lld 6, zf_lsub, zf_go 206], 204),
  (204, [zf_lld 6], 206),
  (206, [zf_inv h 20 47 1], 209),
  (209, [zf_inc 2 1], 212),
  (212, [zf_inc 4 1, zf_go 98], 218),
  (218, [zf_ret], 219)]
theorem zT20_45 (h : Nat) : zTab h 20 45 8 (zt20_45 h) := zTab.mk (ret := none) (bl := xk20_45) (by decide +kernel) (by decide +kernel) rfl rfl
def zt20_46 (h : Nat) : ZB := [(0, [zf_ald 0, zf_ic 34, zf_inv h 20 41 1, zf_ic 0, zf_ist 3], 8),
  (8, [zf_ild 3, zf_ald 0, zf_getR 20 8, zf_ic 2, zf_ild 1, zf_mul, zf_ild 2, zf_add, zf_aldI 100, zf_ic2 .ge 72, zf_ald 0, zf_getR 20 9, zf_ic 80, zf_ild 1, zf_mul, zf_ic 40, zf_ild 2, zf_mul, zf_add, zf_ild 3, zf_add, zf_aldI 100, zf_ist 4, zf_ild 4, zf_ic 34, zf_ic2 .eq 54, zf_ild 4, zf_ic 92, zf_ic2 .ne 60], 54),
  (54, [zf_ald 0, zf_ic 92, zf_inv h 20 41 1], 60),
  (60, [zf_ald 0, zf_ild 4, zf_inv h 20 41 1, zf_inc 3 1, zf_go 8], 72),
  (72, [zf_ald 0, zf_ic 34, zf_inv h 20 41 1, zf_ret], 79)]
theorem zT20_46 (h : Nat) : zTab h 20 46 5 (zt20_46 h) := zTab.mk (ret := none) (bl := xk20_46) (by decide +kernel) (by decide +kernel) rfl rfl
def zt20_47 (h : Nat) : ZB := [(0, [zf_lc 1, zf_lst 3], 2),
  (2, [zf_lld 1, zf_lld 3, zf_ldiv, zf_lc 10, zf_lcmp, zf_if .lt 21, zf_lc 10, zf_lld 3, zf_lmul, zf_lst 3, zf_go 2], 21),
  (21, [zf_lld 3, zf_lc 0, zf_lcmp, zf_if .le 51, zf_ald 0, zf_lld 1, zf_lld 3, zf_ldiv, zf_lc 10, zf_lrem, zf_l2i, zf_ic 48, zf_add, zf_inv h 20 41 1, zf_lld 3, zf_lc 10, zf_ldiv, zf_lst 3, zf_go 21], 51),
  (51, [zf_ret], 52)]
theorem zT20_47 (h : Nat) : zTab h 20 47 5 (zt20_47 h) := zTab.mk (ret := none) (bl := xk20_47) (by decide +kernel) (by decide +kernel) rfl rfl
def zt20_48 (h : Nat) : ZB := [(0, [zf_ald 0, zf_ild 1, zf_inv h 20 3 1, zf_ic 32, zf_ic2 .eq 24, zf_ild 2, zf_if .eq 28, zf_ald 0, zf_ild 1, zf_inv h 20 3 1, zf_ic 10, zf_ic2 .ne 28], 24),
  (24, [zf_ic 1, zf_go 29], 28),
  (28, [zf_ic 0], 29),
  (29, [zf_ist 3, zf_ild 3, zf_if .ne 39, zf_ald 0, zf_ild 1, zf_inv h 20 9 1], 39),
  (39, [zf_ild 2, zf_if .eq 51, zf_ald 0, zf_ild 1, zf_inv h 20 2 1, zf_go 54], 51),
  (51, [zf_ild 1, zf_ic 1, zf_add], 54),
  (54, [zf_reti], 55)]
theorem zT20_48 (h : Nat) : zTab h 20 48 4 (zt20_48 h) := zTab.mk (ret := (some .int)) (bl := xk20_48) (by decide +kernel) (by decide +kernel) rfl rfl
def zt20_49 (h : Nat) : ZB := [(0, [zf_lc 27, zf_ild 0, zf_i2l, zf_lmul, zf_ild 1, zf_i2l, zf_ladd, zf_lst 6, zf_ild 2, zf_if .le 27, zf_lc 27, zf_lld 6, zf_lmul, zf_ild 2, zf_i2l, zf_ladd, zf_go 29], 27),
  (27, [zf_lld 6], 29),
  (29, [zf_lst 6, zf_ild 3, zf_if .le 47, zf_lc 27, zf_lld 6, zf_lmul, zf_ild 3, zf_i2l, zf_ladd, zf_go 49], 47),
  (47, [zf_lld 6], 49),
  (49, [zf_lst 6, zf_ild 4, zf_if .le 69, zf_lc 27, zf_lld 6, zf_lmul, zf_ild 4, zf_i2l, zf_ladd, zf_go 71], 69),
  (69, [zf_lld 6], 71),
  (71, [zf_lst 6, zf_ild 5, zf_if .le 91, zf_lc 27, zf_lld 6, zf_lmul, zf_ild 5, zf_i2l, zf_ladd, zf_go 93], 91),
  (91, [zf_lld 6], 93),
  (93, [zf_retl], 94)]
theorem zT20_49 (h : Nat) : zTab h 20 49 8 (zt20_49 h) := zTab.mk (ret := (some .long)) (bl := xk20_49) (by decide +kernel) (by decide +kernel) rfl rfl
def zt20_50 (h : Nat) : ZB := [(0, [zf_ald 0, zf_ild 1, zf_inv h 20 17 1, zf_if .eq 27, zf_ald 0, zf_getR 20 5, zf_ild 1, zf_aldI 100, zf_ild 2, zf_ic 1, zf_inst h 20 11 3, zf_ic (-1), zf_ic2 .eq 27, zf_ic 1, zf_go 28], 27),
  (27, [zf_ic 0], 28),
  (28, [zf_ist 4, zf_ald 0, zf_ild 4, zf_if .eq 59, zf_ild 3, zf_ic (-1), zf_ic2 .lt 59, zf_ild 3, zf_ald 0, zf_getR 20 8, zf_ic 2, zf_ild 1, zf_mul, zf_ild 2, zf_add, zf_aldI 100, zf_ic2 .ge 59, zf_ic 0, zf_go 60], 59),
  (59, [zf_ic 1], 60),
  (60, [zf_putI 20 0, zf_ald 0, zf_getI 20 0, zf_if .eq 72, zf_ic 0, zf_reti], 72),
  (72, [zf_ild 3, zf_ic (-1), zf_ic2 .ne 90, zf_ald 0, zf_getR 20 8, zf_ic 2, zf_ild 1, zf_mul, zf_ild 2, zf_add, zf_aldI 100, zf_go 106], 90),
  (90, [zf_ald 0, zf_getR 20 9, zf_ic 80, zf_ild 1, zf_mul, zf_ic 40, zf_ild 2, zf_mul, zf_add, zf_ild 3, zf_add, zf_aldI 100], 106),
  (106, [zf_reti], 107)]
theorem zT20_50 (h : Nat) : zTab h 20 50 5 (zt20_50 h) := zTab.mk (ret := (some .int)) (bl := xk20_50) (by decide +kernel) (by decide +kernel) rfl rfl
def zt20_51 (h : Nat) : ZB := [(0, [zf_ald 0, zf_getI 20 0, zf_reti], 5)]
theorem zT20_51 (h : Nat) : zTab h 20 51 1 (zt20_51 h) := zTab.mk (ret := (some .int)) (bl := xk20_51) (by decide +kernel) (by decide +kernel) rfl rfl
def zt20_52 (h : Nat) : ZB := [(0, [zf_ald 0, zf_ic 0, zf_putI 20 0, zf_ild 1, zf_ic 32, zf_ic2 .lt 17, zf_ild 1, zf_ic 126, zf_ic2 .le 23], 17),
  (17, [zf_ild 1, zf_ic 10, zf_ic2 .ne 27], 23),
  (23, [zf_ic 1, zf_go 28], 27),
  (27, [zf_ic 0], 28),
  (28, [zf_ist 2, zf_ild 2, zf_if .eq 43, zf_ald 0, zf_getI 20 3, zf_ic 4000, zf_ic2 .ne 45], 43),
  (43, [zf_ic 0, zf_retz], 45),
  (45, [zf_ald 0, zf_getR 20 2, zf_ald 0, zf_getI 20 3, zf_ild 1, zf_astI, zf_ald 0, zf_dup, zf_getI 20 3, zf_ic 1, zf_add, zf_putI 20 3, zf_ic 1, zf_retz], 67)]
theorem zT20_52 (h : Nat) : zTab h 20 52 3 (zt20_52 h) := zTab.mk (ret := (some .boolean)) (bl := xk20_52) (by decide +kernel) (by decide +kernel) rfl rfl
def zt20_53 (h : Nat) : ZB := [(0, [zf_lc 0, zf_lst 3, zf_ild 1, zf_ist 5], 5),
  (5, [zf_ild 5, zf_ild 2, zf_ic2 .ge 53, zf_ald 0, zf_getR 20 2, zf_ild 5, zf_aldI 100, zf_inst h 20 16 1, zf_if .eq 45, zf_lc 10, zf_lld 3, zf_lmul, zf_ald 0, zf_getR 20 2, zf_ild 5, zf_aldI 100, zf_i2l, zf_ladd, zf_lc 48, zf_lsub, zf_go 46], 45),
  (45, [zf_lld 3], 46),
  (46, [zf_lst 3, zf_inc 5 1, zf_go 5], 53),
  (53, [zf_lld 3, zf_retl], 55)]
theorem zT20_53 (h : Nat) : zTab h 20 53 6 (zt20_53 h) := zTab.mk (ret := (some .long)) (bl := xk20_53) (by decide +kernel) (by decide +kernel) rfl rfl
def zt20_54 (h : Nat) : ZB := [(0, [zf_ild 2, zf_ist 4, zf_ild 1, zf_ald 0, zf_getI 20 16, zf_inst h 20 12 2, zf_ist 5, zf_ic 0, zf_ist 6], 16),
  (16, [zf_ild 6, zf_ild 5, zf_ic2 .ge 65, zf_ald 0, zf_getI 20 18, zf_ic (-1), zf_ic2 .ne 65, zf_ald 0, zf_ild 4, zf_ild 3, zf_inv h 20 48 2, zf_ist 4, zf_ald 0, zf_getI 20 18, zf_ic (-1), zf_ic2 .ne 59, zf_ald 0, zf_ild 1, zf_ild 6, zf_ild 4, zf_inv h 20 39 3, zf_ist 4], 59),
  (59, [zf_inc 6 1, zf_go 16], 65),
  (65, [zf_ild 4, zf_reti], 68)]
theorem zT20_54 (h : Nat) : zTab h 20 54 7 (zt20_54 h) := zTab.mk (ret := (some .int)) (bl := xk20_54) (by decide +kernel) (by decide +kernel) rfl rfl
def zt20_55 (h : Nat) : ZB := [(0, [zf_ald 0, zf_ild 1, zf_if .ge 9, zf_ic 1, zf_go 21], 9),
  (9, [zf_ald 0, zf_getI 20 4, zf_if .ne 20, zf_ic 2, zf_go 21], 20),
  (20, [zf_ic 0], 21),
  (21, [zf_putI 20 0, zf_ald 0, zf_getI 20 0, zf_if .eq 33, zf_ic 0, zf_reti], 33),
  (33, [zf_ald 0, zf_getI 20 27, zf_if .eq 44, zf_ald 0, zf_inv h 20 56 0], 44),
  (44, [zf_ild 1, zf_ald 0, zf_getI 20 26, zf_ic2 .ge 61, zf_ald 0, zf_getR 20 25, zf_ild 1, zf_aldI 100, zf_go 62], 61),
  (61, [zf_ic (-1)], 62),
  (62, [zf_reti], 63)]
theorem zT20_55 (h : Nat) : zTab h 20 55 2 (zt20_55 h) := zTab.mk (ret := (some .int)) (bl := xk20_55) (by decide +kernel) (by decide +kernel) rfl rfl
def zt20_56 (h : Nat) : ZB := [(0, [zf_ald 0, zf_ic 0, zf_putI 20 26, zf_ic 0, zf_ist 1, zf_ic 0, zf_ist 2, zf_ald 0, zf_ic 0, zf_inv h 20 45 1, zf_ic 1, zf_ist 3], 16),
  (16, [zf_ild 1, zf_ic (-1), zf_ic2 .eq 107, zf_ald 0, zf_ild 1, zf_ild 3, zf_inv h 20 5 2, zf_ist 4, zf_ild 4, zf_ic (-1), zf_ic2 .eq 66, zf_ald 0, zf_ic 10, zf_inv h 20 41 1, zf_inc 2 1, zf_ald 0, zf_ild 2, zf_inv h 20 42 1, zf_ald 0, zf_ild 4, zf_inv h 20 45 1, zf_ild 4, zf_ist 1, zf_ild 4, zf_ic 1, zf_add, zf_ist 3, zf_go 104], 66),
  (66, [zf_ald 0, zf_getI 20 1, zf_if .ne 90, zf_ald 0, zf_getR 20 5, zf_ild 1, zf_aldI 100, zf_ic 9, zf_ic2 .eq 90, zf_ald 0, zf_ic 41, zf_inv h 20 41 1], 90),
  (90, [zf_ild 1, zf_ic 1, zf_add, zf_ist 3, zf_ald 0, zf_getR 20 6, zf_ild 1, zf_aldI 100, zf_ist 1, zf_inc 2 (-1)], 104),
  (104, [zf_go 16], 107),
  (107, [zf_ald 0, zf_ic 10, zf_inv h 20 41 1, zf_ald 0, zf_ic 0, zf_putZ 20 27, zf_ret], 119)]
theorem zT20_56 (h : Nat) : zTab h 20 56 5 (zt20_56 h) := zTab.mk (ret := none) (bl := xk20_56) (by decide +kernel) (by decide +kernel) rfl rfl
