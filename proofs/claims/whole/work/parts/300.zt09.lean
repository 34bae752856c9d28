/-! TABLES of what methods of class 9 ask -/
def zt9_0 (h : Nat) : ZB := [(0, [zf_ild 1, zf_ist 3, zf_ic 0, zf_ist 4], 5),
  (5, [zf_ild 4, zf_ic 200, zf_ic2 .ge 46, zf_ild 3, zf_ic (-1), zf_ic2 .eq 46, zf_ald 0, zf_getR 9 7, zf_getR 2 5, zf_ild 3, zf_aldI 100, zf_ild 2, zf_ic2 .le 46, zf_ald 0, zf_getR 9 7, zf_ild 3, zf_inv h 2 20 1, zf_ist 3, zf_inc 4 1, zf_go 5], 46),
  (46, [zf_ild 3, zf_reti], 48)]
theorem zT9_0 (h : Nat) : zTab h 9 0 5 (zt9_0 h) := zTab.mk (ret := (some .int)) (bl := xk9_0) (by decide +kernel) (by decide +kernel) rfl rfl
def zt9_1 (h : Nat) : ZB := [(0, [zf_ild 1, zf_ist 2, zf_ic 0, zf_ist 3], 4),
  (4, [zf_ild 3, zf_ald 0, zf_getI 9 1, zf_ic2 .gt 95, zf_ald 0, zf_getI 9 3, zf_ic (-1), zf_ic2 .ne 95, zf_ild 2, zf_ic (-1), zf_ic2 .eq 95, zf_ald 0, zf_inv h 9 25 0, zf_ald 0, zf_inv h 9 14 0, zf_ic 40, zf_ic2 .ne 40, zf_ild 2, zf_reti], 40),
  (40, [zf_ald 0, zf_inv h 9 14 0, zf_ic 41, zf_ic2 .ne 81, zf_ald 0, zf_dup, zf_getI 9 2, zf_ic 1, zf_add, zf_putI 9 2, zf_ald 0, zf_dup, zf_getI 9 4, zf_ic 1, zf_sub, zf_putI 9 4, zf_ald 0, zf_getR 9 7, zf_ild 2, zf_inv h 2 20 1, zf_ist 2, zf_go 89], 81),
  (81, [zf_ald 0, zf_ald 0, zf_getI 9 2, zf_inv h 9 2 1], 89),
  (89, [zf_inc 3 1, zf_go 4], 95),
  (95, [zf_ild 2, zf_reti], 97)]
theorem zT9_1 (h : Nat) : zTab h 9 1 4 (zt9_1 h) := zTab.mk (ret := (some .int)) (bl := xk9_1) (by decide +kernel) (by decide +kernel) rfl rfl
def zt9_2 (h : Nat) : ZB := [(0, [zf_ald 0, zf_getI 9 3, zf_ic (-1), zf_ic2 .ne 13, zf_ald 0, zf_ild 1, zf_putI 9 3], 13),
  (13, [zf_ret], 14)]
theorem zT9_2 (h : Nat) : zTab h 9 2 2 (zt9_2 h) := zTab.mk (ret := none) (bl := xk9_2) (by decide +kernel) (by decide +kernel) rfl rfl
def zt9_3 (h : Nat) : ZB := [(0, [zf_ald 0, zf_ald 1, zf_putR 9 0, zf_ald 0, zf_ild 2, zf_ald 1, zf_len, zf_min, zf_putI 9 1, zf_ald 0, zf_ic 0, zf_putI 9 2, zf_ald 0, zf_ic (-1), zf_putI 9 3, zf_ald 0, zf_ic 0, zf_putI 9 4, zf_ald 0, zf_ic 1, zf_putI 9 5, zf_ald 0, zf_ild 3, zf_if .ne 44, zf_ic 1, zf_go 45], 44),
  (44, [zf_ic 0], 45),
  (45, [zf_putZ 9 6, zf_ald 0, zf_ald 4, zf_putR 9 7, zf_ald 0, zf_getR 9 7, zf_ild 3, zf_inv h 2 2 1, zf_ald 0, zf_getI 9 6, zf_if .eq 76, zf_ald 0, zf_inv h 9 19 0, zf_go 80], 76),
  (76, [zf_ald 0, zf_inv h 9 17 0], 80),
  (80, [zf_ald 0, zf_getI 9 3, zf_reti], 85)]
theorem zT9_3 (h : Nat) : zTab h 9 3 5 (zt9_3 h) := zTab.mk (ret := (some .int)) (bl := xk9_3) (by decide +kernel) (by decide +kernel) rfl rfl
def zt9_4 (h : Nat) : ZB := [(0, [zf_ild 0, zf_lk 60 [(65, 52), (75, 48), (78, 56), (86, 44)]], 44),
  (44, [zf_lc 3, zf_retl], 48),
  (48, [zf_lc 9, zf_retl], 52),
  (52, [zf_lc 360, zf_retl], 56),
  (56, [zf_lc 1000000000, zf_retl], 60),
  (60, [zf_lc 9999, zf_retl], 64)]
theorem zT9_4 (h : Nat) : zTab h 9 4 1 (zt9_4 h) := zTab.mk (ret := (some .long)) (bl := xk9_4) (by decide +kernel) (by decide +kernel) rfl rfl
def zt9_6 (h : Nat) : ZB := [(0, [zf_ic 1, zf_ist 3, zf_ic 0, zf_ist 4], 5),
  (5, [zf_ild 4, zf_ild 2, zf_ic2 .gt 52, zf_ild 3, zf_if .eq 52, zf_ild 1, zf_ild 4, zf_add, zf_ald 0, zf_getI 9 1, zf_ic2 .ge 44, zf_ald 0, zf_getR 9 0, zf_ild 1, zf_ild 4, zf_add, zf_aldI 104, zf_ic 46, zf_ic2 .ne 44, zf_ic 1, zf_go 45], 44),
  (44, [zf_ic 0], 45),
  (45, [zf_ist 3, zf_inc 4 1, zf_go 5], 52),
  (52, [zf_ild 3, zf_retz], 54)]
theorem zT9_6 (h : Nat) : zTab h 9 6 5 (zt9_6 h) := zTab.mk (ret := (some .boolean)) (bl := xk9_6) (by decide +kernel) (by decide +kernel) rfl rfl
def zt9_7 (h : Nat) : ZB := [(0, [zf_ild 0, zf_ic 48, zf_ic2 .lt 16, zf_ild 0, zf_ic 57, zf_ic2 .gt 16, zf_ic 1, zf_go 17], 16),
  (16, [zf_ic 0], 17),
  (17, [zf_retz], 18)]
theorem zT9_7 (h : Nat) : zTab h 9 7 1 (zt9_7 h) := zTab.mk (ret := (some .boolean)) (bl := xk9_7) (by decide +kernel) (by decide +kernel) rfl rfl
def zt9_8 (h : Nat) : ZB := [(0, [zf_ald 0, zf_inv h 9 14 0, zf_ic 41, zf_ic2 .ne 22, zf_ald 0, zf_dup, zf_getI 9 4, zf_ic 1, zf_sub, zf_putI 9 4, zf_go 58], 22),
  (22, [zf_ald 0, zf_inv h 9 14 0, zf_ic 40, zf_ic2 .ne 58, zf_ald 0, zf_getI 9 4, zf_ic 100, zf_ic2 .lt 48, zf_ald 0, zf_ald 0, zf_getI 9 2, zf_inv h 9 2 1], 48),
  (48, [zf_ald 0, zf_dup, zf_getI 9 4, zf_ic 1, zf_add, zf_putI 9 4], 58),
  (58, [zf_ret], 59)]
theorem zT9_8 (h : Nat) : zTab h 9 8 1 (zt9_8 h) := zTab.mk (ret := none) (bl := xk9_8) (by decide +kernel) (by decide +kernel) rfl rfl
def zt9_9 (h : Nat) : ZB := [(0, [zf_ald 0, zf_ild 2, zf_inv h 9 24 1, zf_ist 4, zf_ald 0, zf_getI 9 2, zf_ild 4, zf_ic2 .le 22, zf_ald 0, zf_ild 4, zf_inv h 9 2 1], 22),
  (22, [zf_ic 0, zf_ist 5], 25),
  (25, [zf_ild 5, zf_ald 0, zf_getI 9 1, zf_ic2 .gt 137, zf_ald 0, zf_getI 9 3, zf_ic (-1), zf_ic2 .ne 137, zf_ald 0, zf_inv h 9 14 0, zf_ic 10, zf_ic2 .ne 93, zf_ald 0, zf_ald 0, zf_getI 9 2, zf_ic 1, zf_add, zf_ild 3, zf_inv h 9 6 2, zf_if .ne 93, zf_ald 0, zf_getR 9 7, zf_ild 1, zf_ald 0, zf_getR 9 0, zf_ild 2, zf_ald 0, zf_getI 9 2, zf_inv h 2 15 4, zf_ald 0, zf_dup, zf_getI 9 2, zf_ic 1, zf_add, zf_putI 9 2, zf_ret], 93),
  (93, [zf_ald 0, zf_getI 9 2, zf_ald 0, zf_getI 9 1, zf_ic2 .ge 113, zf_ald 0, zf_getI 9 2, zf_ild 4, zf_ic2 .lt 121], 113),
  (113, [zf_ald 0, zf_ald 0, zf_getI 9 2, zf_inv h 9 2 1], 121),
  (121, [zf_ald 0, zf_dup, zf_getI 9 2, zf_ic 1, zf_add, zf_putI 9 2, zf_inc 5 1, zf_go 25], 137),
  (137, [zf_ret], 138)]
theorem zT9_9 (h : Nat) : zTab h 9 9 6 (zt9_9 h) := zTab.mk (ret := none) (bl := xk9_9) (by decide +kernel) (by decide +kernel) rfl rfl
def zt9_10 (h : Nat) : ZB := [(0, [zf_ald 0, zf_ild 2, zf_inv h 9 24 1, zf_ist 3, zf_ald 0, zf_getI 9 4, zf_ic 1, zf_sub, zf_ist 4, zf_ald 0, zf_getI 9 2, zf_ild 3, zf_ic2 .le 27, zf_ald 0, zf_ild 3, zf_inv h 9 2 1], 27),
  (27, [zf_ic 0, zf_ist 5], 30),
  (30, [zf_ild 5, zf_ald 0, zf_getI 9 1, zf_ic2 .gt 128, zf_ald 0, zf_getI 9 3, zf_ic (-1), zf_ic2 .ne 128, zf_ald 0, zf_getI 9 4, zf_ild 4, zf_ic2 .le 128, zf_ald 0, zf_getI 9 2, zf_ald 0, zf_getI 9 1, zf_ic2 .ge 75, zf_ald 0, zf_getI 9 2, zf_ild 3, zf_ic2 .lt 86], 75),
  (75, [zf_ald 0, zf_ald 0, zf_getI 9 2, zf_inv h 9 2 1, zf_go 122], 86),
  (86, [zf_ald 0, zf_getR 9 0, zf_ald 0, zf_getI 9 2, zf_aldI 104, zf_ic 34, zf_ic2 .ne 108, zf_ald 0, zf_ild 3, zf_inv h 9 27 1, zf_go 122], 108),
  (108, [zf_ald 0, zf_inv h 9 8 0, zf_ald 0, zf_dup, zf_getI 9 2, zf_ic 1, zf_add, zf_putI 9 2], 122),
  (122, [zf_inc 5 1, zf_go 30], 128),
  (128, [zf_ald 0, zf_getI 9 3, zf_ic (-1), zf_ic2 .ne 153, zf_ald 0, zf_getR 9 7, zf_ild 1, zf_ald 0, zf_getR 9 0, zf_ild 2, zf_ald 0, zf_getI 9 2, zf_inv h 2 15 4], 153),
  (153, [zf_ret], 154)]
theorem zT9_10 (h : Nat) : zTab h 9 10 6 (zt9_10 h) := zTab.mk (ret := none) (bl := xk9_10) (by decide +kernel) (by decide +kernel) rfl rfl
def zt9_11 (h : Nat) : ZB := [(0, [zf_ic 0, zf_ist 3], 2),
  (2, [zf_ild 3, zf_ic 9, zf_ic2 .ge 95, zf_ild 3, zf_inst h 2 28 1, zf_ast 4, zf_ald 4, zf_slen, zf_ild 2, zf_ild 1, zf_sub, zf_ic2 .ne 29, zf_ic 1, zf_go 30], 29),
  (29, [zf_ic 0], 30),
  (30, [zf_ist 5, zf_ic 0, zf_ist 6], 35),
  (35, [zf_ild 6, zf_ald 4, zf_slen, zf_ic2 .ge 82, zf_ild 5, zf_if .eq 82, zf_ald 0, zf_getR 9 0, zf_ild 1, zf_ild 6, zf_add, zf_aldI 104, zf_ald 4, zf_ild 6, zf_schar, zf_ic2 .ne 73, zf_ic 1, zf_go 74], 73),
  (73, [zf_ic 0], 74),
  (74, [zf_ist 5, zf_inc 6 1, zf_go 35], 82),
  (82, [zf_ild 5, zf_if .eq 89, zf_ild 3, zf_reti], 89),
  (89, [zf_inc 3 1, zf_go 2], 95),
  (95, [zf_ic 9, zf_reti], 98)]
theorem zT9_11 (h : Nat) : zTab h 9 11 7 (zt9_11 h) := zTab.mk (ret := (some .int)) (bl := xk9_11) (by decide +kernel) (by decide +kernel) rfl rfl
def zt9_12 (h : Nat) : ZB := [(0, [zf_ild 0, zf_lk 56 [(65, 48), (78, 52), (85, 46), (86, 44)]], 44),
  (44, [zf_lc 1, zf_retl], 46),
  (46, [zf_lc 1, zf_retl], 48),
  (48, [zf_lc (-360), zf_retl], 52),
  (52, [zf_lc (-1000000000), zf_retl], 56),
  (56, [zf_lc 0, zf_retl], 58)]
theorem zT9_12 (h : Nat) : zTab h 9 12 1 (zt9_12 h) := zTab.mk (ret := (some .long)) (bl := xk9_12) (by decide +kernel) (by decide +kernel) rfl rfl
def zt9_13 (h : Nat) : ZB := [(0, [zf_ild 2, zf_ic (-1), zf_ic2 .ne 15, zf_ild 1, zf_if .ne 13, zf_ic 1, zf_go 14], 13),
  (13, [zf_ic 0], 14),
  (14, [zf_retz], 15),
  (15, [zf_rc 2, zf_ild 1, zf_aldI 100, zf_ald 0, zf_getR 9 7, zf_ild 2, zf_inv h 2 16 1, zf_bit zshr, zf_ic 1, zf_bit zand, zf_if .eq 38, zf_ic 1, zf_go 39], 38),
  (38, [zf_ic 0], 39),
  (39, [zf_retz], 40)]
theorem zT9_13 (h : Nat) : zTab h 9 13 3 (zt9_13 h) := zTab.mk (ret := (some .boolean)) (bl := xk9_13) (by decide +kernel) (by decide +kernel) rfl rfl
def zt9_14 (h : Nat) : ZB := [(0, [zf_ald 0, zf_getI 9 2, zf_ald 0, zf_getI 9 1, zf_ic2 .ge 23, zf_ald 0, zf_getR 9 0, zf_ald 0, zf_getI 9 2, zf_aldI 104, zf_go 24], 23),
  (23, [zf_ic (-1)], 24),
  (24, [zf_reti], 25)]
theorem zT9_14 (h : Nat) : zTab h 9 14 1 (zt9_14 h) := zTab.mk (ret := (some .int)) (bl := xk9_14) (by decide +kernel) (by decide +kernel) rfl rfl
def zt9_15 (h : Nat) : ZB := [(0, [zf_ald 0, zf_inv h 9 14 0, zf_ic 32, zf_ic2 .eq 34, zf_ald 0, zf_getI 9 6, zf_if .eq 25, zf_ald 0, zf_inv h 9 14 0, zf_ic 10, zf_ic2 .eq 34], 25),
  (25, [zf_ald 0, zf_ald 0, zf_getI 9 2, zf_inv h 9 2 1, zf_ret], 34),
  (34, [zf_ald 0, zf_dup, zf_getI 9 2, zf_ic 1, zf_add, zf_putI 9 2, zf_ald 0, zf_getI 9 6, zf_if .eq 55, zf_ald 0, zf_inv h 9 25 0], 55),
  (55, [zf_ret], 56)]
theorem zT9_15 (h : Nat) : zTab h 9 15 1 (zt9_15 h) := zTab.mk (ret := none) (bl := xk9_15) (by decide +kernel) (by decide +kernel) rfl rfl
def zt9_16 (h : Nat) : ZB := [(0, [zf_ild 1, zf_ic (-1), zf_ic2 .ne 9, zf_ic 0, zf_go 20], 9),
  (9, [zf_ald 0, zf_getR 9 7, zf_getR 2 5, zf_ild 1, zf_aldI 100, zf_ic 1, zf_add], 20),
  (20, [zf_ist 2, zf_ic 0, zf_ist 3], 23),
  (23, [zf_ild 3, zf_ild 2, zf_ic2 .ge 53, zf_ald 0, zf_inv h 9 14 0, zf_ic 46, zf_ic2 .ne 53, zf_ald 0, zf_dup, zf_getI 9 2, zf_ic 1, zf_add, zf_putI 9 2, zf_inc 3 1, zf_go 23], 53),
  (53, [zf_ild 1, zf_ic (-1), zf_ic2 .eq 72, zf_ild 3, zf_if .ne 72, zf_ald 0, zf_ald 0, zf_getI 9 2, zf_inv h 9 2 1, zf_ild 1, zf_reti], 72),
  (72, [zf_ald 0, zf_getI 9 2, zf_ist 4, zf_ald 0, zf_ald 0, zf_ild 1, zf_ild 3, zf_ic 1, zf_sub, zf_inv h 9 0 2, zf_inv h 9 20 1, zf_ist 5, zf_ild 5, zf_ic (-1), zf_ic2 .ne 100, zf_ild 1, zf_reti], 100),
  (100, [zf_ald 0, zf_getR 9 7, zf_ild 5, zf_inv h 2 16 1, zf_ic 9, zf_ic2 .ne 125, zf_ald 0, zf_ild 5, zf_ild 4, zf_ild 3, zf_inv h 9 9 3, zf_ild 1, zf_reti], 125),
  (125, [zf_ald 0, zf_ild 5, zf_inv h 9 23 1, zf_ald 0, zf_getI 9 3, zf_ic (-1), zf_ic2 .ne 156, zf_ald 0, zf_inv h 9 14 0, zf_ic 10, zf_ic2 .eq 156, zf_ald 0, zf_ald 0, zf_getI 9 2, zf_inv h 9 2 1], 156),
  (156, [zf_ald 0, zf_dup, zf_getI 9 2, zf_ic 1, zf_add, zf_putI 9 2, zf_ild 5, zf_reti], 169)]
theorem zT9_16 (h : Nat) : zTab h 9 16 6 (zt9_16 h) := zTab.mk (ret := (some .int)) (bl := xk9_16) (by decide +kernel) (by decide +kernel) rfl rfl
def zt9_17 (h : Nat) : ZB := [(0, [zf_ic (-1), zf_ist 1, zf_ic 0, zf_ist 2], 4),
  (4, [zf_ild 2, zf_ald 0, zf_getI 9 1, zf_ic2 .gt 47, zf_ald 0, zf_getI 9 3, zf_ic (-1), zf_ic2 .ne 47, zf_ild 2, zf_if .eq 35, zf_ald 0, zf_getI 9 2, zf_ald 0, zf_getI 9 1, zf_ic2 .ge 47], 35),
  (35, [zf_ald 0, zf_ild 1, zf_inv h 9 16 1, zf_ist 1, zf_inc 2 1, zf_go 4], 47),
  (47, [zf_ret], 48)]
theorem zT9_17 (h : Nat) : zTab h 9 17 3 (zt9_17 h) := zTab.mk (ret := none) (bl := xk9_17) (by decide +kernel) (by decide +kernel) rfl rfl
def zt9_18 (h : Nat) : ZB := [(0, [zf_ald 0, zf_getI 9 2, zf_ist 2, zf_ald 0, zf_getI 9 4, zf_ic 100, zf_ic2 .lt 24, zf_ald 0, zf_ald 0, zf_getI 9 2, zf_inv h 9 2 1, zf_ild 1, zf_reti], 24),
  (24, [zf_ald 0, zf_dup, zf_getI 9 4, zf_ic 1, zf_add, zf_putI 9 4, zf_ald 0, zf_dup, zf_getI 9 2, zf_ic 1, zf_add, zf_putI 9 2, zf_ald 0, zf_inv h 9 25 0, zf_ald 0, zf_getI 9 2, zf_ist 3, zf_ald 0, zf_ild 1, zf_inv h 9 20 1, zf_ist 4, zf_ild 4, zf_ic (-1), zf_ic2 .ne 68, zf_ild 1, zf_reti], 68),
  (68, [zf_ald 0, zf_getR 9 7, zf_ild 4, zf_inv h 2 16 1, zf_ic 9, zf_ic2 .ne 91, zf_ald 0, zf_ild 4, zf_ild 2, zf_inv h 9 10 2, zf_ild 1, zf_reti], 91),
  (91, [zf_ald 0, zf_ild 4, zf_inv h 9 23 1, zf_ild 4, zf_reti], 100)]
theorem zT9_18 (h : Nat) : zTab h 9 18 5 (zt9_18 h) := zTab.mk (ret := (some .int)) (bl := xk9_18) (by decide +kernel) (by decide +kernel) rfl rfl
def zt9_19 (h : Nat) : ZB := [(0, [zf_ald 0, zf_inv h 9 25 0, zf_ald 0, zf_inv h 9 14 0, zf_ic 40, zf_ic2 .eq 21, zf_ald 0, zf_ald 0, zf_getI 9 2, zf_inv h 9 2 1], 21),
  (21, [zf_ic (-1), zf_ist 1, zf_ic 0, zf_ist 2], 25),
  (25, [zf_ild 2, zf_ald 0, zf_getI 9 1, zf_ic2 .gt 65, zf_ald 0, zf_getI 9 3, zf_ic (-1), zf_ic2 .ne 65, zf_ald 0, zf_ald 0, zf_ild 1, zf_inv h 9 18 1, zf_inv h 9 1 1, zf_ist 1, zf_ild 1, zf_ic (-1), zf_ic2 .ne 59, zf_go 65], 59),
  (59, [zf_inc 2 1, zf_go 25], 65),
  (65, [zf_ald 0, zf_inv h 9 25 0, zf_ald 0, zf_getI 9 2, zf_ald 0, zf_getI 9 1, zf_ic2 .ge 88, zf_ald 0, zf_ald 0, zf_getI 9 2, zf_inv h 9 2 1], 88),
  (88, [zf_ret], 89)]
theorem zT9_19 (h : Nat) : zTab h 9 19 3 (zt9_19 h) := zTab.mk (ret := none) (bl := xk9_19) (by decide +kernel) (by decide +kernel) rfl rfl
def zt9_20 (h : Nat) : ZB := [(0, [zf_ald 0, zf_getI 9 2, zf_ist 2], 5),
  (5, [zf_ald 0, zf_getI 9 2, zf_ald 0, zf_getI 9 1, zf_ic2 .ge 57, zf_ald 0, zf_getR 9 0, zf_ald 0, zf_getI 9 2, zf_aldI 104, zf_ic 97, zf_ic2 .lt 57, zf_ald 0, zf_getR 9 0, zf_ald 0, zf_getI 9 2, zf_aldI 104, zf_ic 122, zf_ic2 .gt 57, zf_ald 0, zf_dup, zf_getI 9 2, zf_ic 1, zf_add, zf_putI 9 2, zf_go 5], 57),
  (57, [zf_ald 0, zf_getI 9 2, zf_ild 2, zf_ic2 .ne 75, zf_ald 0, zf_ald 0, zf_getI 9 2, zf_inv h 9 2 1, zf_ic (-1), zf_reti], 75),
  (75, [zf_ald 0, zf_ild 2, zf_ald 0, zf_getI 9 2, zf_inv h 9 11 2, zf_ist 3, zf_ald 0, zf_ild 3, zf_ild 1, zf_inv h 9 13 2, zf_if .eq 107, zf_ald 0, zf_getR 9 7, zf_getI 2 0, zf_ic 200, zf_ic2 .lt 114], 107),
  (107, [zf_ald 0, zf_ild 2, zf_inv h 9 2 1, zf_ic (-1), zf_reti], 114),
  (114, [zf_ald 0, zf_getR 9 7, zf_ild 3, zf_ild 1, zf_inv h 2 0 2, zf_reti], 124)]
theorem zT9_20 (h : Nat) : zTab h 9 20 4 (zt9_20 h) := zTab.mk (ret := (some .int)) (bl := xk9_20) (by decide +kernel) (by decide +kernel) rfl rfl
def zt9_21 (h : Nat) : ZB := [(0, [zf_ald 0, zf_getI 9 2, zf_ist 4, zf_ald 0, zf_inv h 9 14 0, zf_ic 45, zf_ic2 .ne 19, zf_ic 1, zf_go 20], 19),
  (19, [zf_ic 0], 20),
  (20, [zf_ist 5, zf_ild 5, zf_if .eq 37, zf_ald 0, zf_dup, zf_getI 9 2, zf_ic 1, zf_add, zf_putI 9 2], 37),
  (37, [zf_ald 0, zf_ic 4, zf_inv h 9 28 1, zf_lst 6, zf_ild 2, zf_ic 78, zf_ic2 .ne 61, zf_lld 6, zf_rc 1, zf_ic 6, zf_aldL, zf_lmul, zf_lst 6], 61),
  (61, [zf_ild 2, zf_ic 78, zf_ic2 .ne 130, zf_ald 0, zf_getI 9 3, zf_ic (-1), zf_ic2 .ne 130, zf_ald 0, zf_inv h 9 14 0, zf_ic 46, zf_ic2 .ne 130, zf_ald 0, zf_dup, zf_getI 9 2, zf_ic 1, zf_add, zf_putI 9 2, zf_ald 0, zf_getI 9 2, zf_ist 8, zf_ald 0, zf_ic 6, zf_inv h 9 28 1, zf_lst 9, zf_lld 6, zf_lld 9, zf_rc 1, zf_ic 6, zf_ald 0, zf_getI 9 2, zf_ild 8, zf_sub, zf_sub, zf_aldL, zf_lmul, zf_ladd, zf_lst 6], 130),
  (130, [zf_ild 5, zf_if .eq 141, zf_lld 6, zf_lneg, zf_go 143], 141),
  (141, [zf_lld 6], 143),
  (143, [zf_lst 6, zf_ald 0, zf_getI 9 3, zf_ic (-1), zf_ic2 .ne 182, zf_lld 6, zf_ild 2, zf_inst h 9 12 1, zf_lcmp, zf_if .lt 173, zf_lld 6, zf_ild 2, zf_inst h 9 4 1, zf_lcmp, zf_if .le 182], 173),
  (173, [zf_ald 0, zf_ild 4, zf_inv h 9 2 1, zf_go 209], 182),
  (182, [zf_ild 2, zf_ic 86, zf_ic2 .ne 198, zf_ald 0, zf_lld 6, zf_l2i, zf_putI 9 5, zf_go 209], 198),
  (198, [zf_ald 0, zf_getR 9 7, zf_ild 1, zf_ild 3, zf_lld 6, zf_inv h 2 23 3], 209),
  (209, [zf_ret], 210)]
theorem zT9_21 (h : Nat) : zTab h 9 21 11 (zt9_21 h) := zTab.mk (ret := none) (bl := xk9_21) (by decide +kernel) (by decide +kernel) rfl rfl
def zt9_22 (h : Nat) : ZB := [(0, [zf_ald 0, zf_inv h 9 14 0, zf_ic 34, zf_ic2 .eq 18, zf_ald 0, zf_ald 0, zf_getI 9 2, zf_inv h 9 2 1, zf_ret], 18),
  (18, [zf_ald 0, zf_dup, zf_getI 9 2, zf_ic 1, zf_add, zf_putI 9 2, zf_ald 0, zf_getR 9 7, zf_ild 1, zf_ild 2, zf_inv h 2 24 2, zf_ic 0, zf_ist 3], 39),
  (39, [zf_ild 3, zf_ic 40, zf_ic2 .gt 164, zf_ald 0, zf_getI 9 3, zf_ic (-1), zf_ic2 .ne 164, zf_ald 0, zf_inv h 9 14 0, zf_ic 34, zf_ic2 .ne 73, zf_ald 0, zf_dup, zf_getI 9 2, zf_ic 1, zf_add, zf_putI 9 2, zf_ret], 73),
  (73, [zf_ild 3, zf_ic 40, zf_ic2 .eq 88, zf_ald 0, zf_inv h 9 14 0, zf_ic 10, zf_ic2 .ne 96], 88),
  (88, [zf_ald 0, zf_ald 0, zf_getI 9 2, zf_inv h 9 2 1], 96),
  (96, [zf_ald 0, zf_inv h 9 26 0, zf_ald 0, zf_getI 9 3, zf_ic (-1), zf_ic2 .ne 150, zf_ald 0, zf_getI 9 2, zf_ald 0, zf_getI 9 1, zf_ic2 .ge 150, zf_ald 0, zf_getR 9 7, zf_ild 1, zf_ild 2, zf_ald 0, zf_getR 9 0, zf_ald 0, zf_getI 9 2, zf_aldI 104, zf_inv h 2 1 3, zf_ald 0, zf_dup, zf_getI 9 2, zf_ic 1, zf_add, zf_putI 9 2, zf_go 158], 150),
  (150, [zf_ald 0, zf_ald 0, zf_getI 9 2, zf_inv h 9 2 1], 158),
  (158, [zf_inc 3 1, zf_go 39], 164),
  (164, [zf_ret], 165)]
theorem zT9_22 (h : Nat) : zTab h 9 22 4 (zt9_22 h) := zTab.mk (ret := none) (bl := xk9_22) (by decide +kernel) (by decide +kernel) rfl rfl
def zt9_23 (h : Nat) : ZB := [(0, [zf_ald 0, zf_getR 9 7, zf_ild 1, zf_inv h 2 16 1, zf_ist 2, zf_ild 2, zf_inst h 2 12 1, zf_ast 3, zf_ald 3, zf_slen, zf_ist 4, zf_ild 2, zf_ic 4, zf_ic2 .ne 33, zf_ald 0, zf_getI 9 5, zf_ic 2, zf_ic2 .lt 47], 33),
  (33, [zf_ild 2, zf_ic 6, zf_ic2 .ne 50, zf_ald 0, zf_getI 9 5, zf_ic 3, zf_ic2 .ge 50], 47),
  (47, [zf_inc 4 (-1)], 50),
  (50, [zf_ic 0, zf_ist 5, zf_ic 0, zf_ist 6, zf_ic 0, zf_ist 7], 59),
  (59, [zf_ild 7, zf_ild 4, zf_ic2 .ge 133, zf_ald 0, zf_getI 9 3, zf_ic (-1), zf_ic2 .ne 133, zf_ald 0, zf_inv h 9 15 0, zf_ald 0, zf_getI 9 3, zf_ic (-1), zf_ic2 .eq 87, zf_ret], 87),
  (87, [zf_ald 3, zf_ild 7, zf_schar, zf_ic 84, zf_ic2 .ne 111, zf_ald 0, zf_ild 1, zf_ild 5, zf_inv h 9 22 2, zf_inc 5 1, zf_go 127], 111),
  (111, [zf_ald 0, zf_ild 1, zf_ald 3, zf_ild 7, zf_schar, zf_ild 6, zf_inv h 9 21 3, zf_inc 6 1], 127),
  (127, [zf_inc 7 1, zf_go 59], 133),
  (133, [zf_ret], 134)]
theorem zT9_23 (h : Nat) : zTab h 9 23 8 (zt9_23 h) := zTab.mk (ret := none) (bl := xk9_23) (by decide +kernel) (by decide +kernel) rfl rfl
def zt9_24 (h : Nat) : ZB := [(0, [zf_ild 1, zf_ic 2000, zf_add, zf_ald 0, zf_getR 9 7, zf_getI 2 2, zf_sub, zf_reti], 14)]
theorem zT9_24 (h : Nat) : zTab h 9 24 2 (zt9_24 h) := zTab.mk (ret := (some .int)) (bl := xk9_24) (by decide +kernel) (by decide +kernel) rfl rfl
def zt9_25 (h : Nat) : ZB := [(0, [zf_ald 0, zf_getI 9 2, zf_ald 0, zf_getI 9 1, zf_ic2 .ge 52, zf_ald 0, zf_getR 9 0, zf_ald 0, zf_getI 9 2, zf_aldI 104, zf_ic 32, zf_ic2 .eq 39, zf_ald 0, zf_getR 9 0, zf_ald 0, zf_getI 9 2, zf_aldI 104, zf_ic 10, zf_ic2 .ne 52], 39),
  (39, [zf_ald 0, zf_dup, zf_getI 9 2, zf_ic 1, zf_add, zf_putI 9 2, zf_go 0], 52),
  (52, [zf_ret], 53)]
theorem zT9_25 (h : Nat) : zTab h 9 25 1 (zt9_25 h) := zTab.mk (ret := none) (bl := xk9_25) (by decide +kernel) (by decide +kernel) rfl rfl
def zt9_26 (h : Nat) : ZB := [(0, [zf_ald 0, zf_getI 9 3, zf_ic (-1), zf_ic2 .ne 53, zf_ald 0, zf_inv h 9 14 0, zf_ic 92, zf_ic2 .ne 53, zf_ald 0, zf_dup, zf_getI 9 2, zf_ic 1, zf_add, zf_putI 9 2, zf_ald 0, zf_inv h 9 14 0, zf_ic 34, zf_ic2 .eq 53, zf_ald 0, zf_inv h 9 14 0, zf_ic 92, zf_ic2 .eq 53, zf_ald 0, zf_ald 0, zf_getI 9 2, zf_inv h 9 2 1], 53),
  (53, [zf_ret], 54)]
theorem zT9_26 (h : Nat) : zTab h 9 26 1 (zt9_26 h) := zTab.mk (ret := none) (bl := xk9_26) (by decide +kernel) (by decide +kernel) rfl rfl
def zt9_27 (h : Nat) : ZB := [(0, [zf_ald 0, zf_dup, zf_getI 9 2, zf_ic 1, zf_add, zf_putI 9 2, zf_ic 0, zf_ist 2, zf_ic 0, zf_ist 3], 14),
  (14, [zf_ild 3, zf_ald 0, zf_getI 9 1, zf_ic2 .gt 104, zf_ald 0, zf_getI 9 3, zf_ic (-1), zf_ic2 .ne 104, zf_ild 2, zf_if .ne 104, zf_ald 0, zf_inv h 9 14 0, zf_ic 34, zf_ic2 .ne 47, zf_ic 1, zf_go 48], 47),
  (47, [zf_ic 0], 48),
  (48, [zf_ist 2, zf_ald 0, zf_getI 9 2, zf_ild 1, zf_ic2 .ge 61, zf_ald 0, zf_inv h 9 26 0], 61),
  (61, [zf_ald 0, zf_getI 9 2, zf_ald 0, zf_getI 9 1, zf_ic2 .ge 80, zf_ald 0, zf_getI 9 2, zf_ild 1, zf_ic2 .lt 88], 80),
  (80, [zf_ald 0, zf_ald 0, zf_getI 9 2, zf_inv h 9 2 1], 88),
  (88, [zf_ald 0, zf_dup, zf_getI 9 2, zf_ic 1, zf_add, zf_putI 9 2, zf_inc 3 1, zf_go 14], 104),
  (104, [zf_ret], 105)]
theorem zT9_27 (h : Nat) : zTab h 9 27 4 (zt9_27 h) := zTab.mk (ret := none) (bl := xk9_27) (by decide +kernel) (by decide +kernel) rfl rfl
def zt9_28 (h : Nat) : ZB := [(0, [zf_lc 0, zf_lst 2, zf_ic 0, zf_ist 4], 5),
  (5, [zf_ild 4, zf_ild 1, zf_ic2 .ge 53, zf_ald 0, zf_inv h 9 14 0, zf_inst h 9 7 1, zf_if .eq 53, zf_lld 2, zf_lc 10, zf_lmul, zf_ald 0, zf_inv h 9 14 0, zf_i2l, zf_ladd, zf_lc 48, zf_lsub, zf_lst 2, zf_ald 0, zf_dup, zf_getI 9 2, zf_ic 1, zf_add, zf_putI 9 2, zf_inc 4 1, zf_go 5], 53),
  (53, [zf_ild 4, zf_if .eq 68, zf_ald 0, zf_inv h 9 14 0, zf_inst h 9 7 1, zf_if .eq 76], 68),
  (68, [zf_ald 0, zf_ald 0, zf_getI 9 2, zf_inv h 9 2 1], 76),
  (76, [zf_lld 2, zf_retl], 78)]
theorem zT9_28 (h : Nat) : zTab h 9 28 5 (zt9_28 h) := zTab.mk (ret := (some .long)) (bl := xk9_28) (by decide +kernel) (by decide +kernel) rfl rfl
