/-! TABLES of what methods of class 4 ask -/
def zt4_0 (h : Nat) : ZB := [(0, [zf_ald 0, zf_getI 4 10, zf_ic 8, zf_ic2 .ge 31, zf_ald 0, zf_getR 4 9, zf_ald 0, zf_getI 4 10, zf_ild 1, zf_ic 1, zf_add, zf_astI, zf_ald 0, zf_dup, zf_getI 4 10, zf_ic 1, zf_add, zf_putI 4 10], 31),
  (31, [zf_ald 0, zf_getR 4 0, zf_ild 1, zf_inv h 8 0 1, zf_reti], 40)]
theorem zT4_0 (h : Nat) : zTab h 4 0 2 (zt4_0 h) := zTab.mk (ret := (some .int)) (bl := xk4_0) (by decide +kernel) (by decide +kernel) rfl rfl
def zt4_1 (h : Nat) : ZB := [(0, [zf_ald 0, zf_getI 4 3, zf_ic 12, zf_ic2 .lt 17, zf_ald 0, zf_ic 3, zf_ild 3, zf_ic 0, zf_inv h 4 12 3, zf_ret], 17),
  (17, [zf_ald 0, zf_getI 4 3, zf_ic 6, zf_mul, zf_ist 4, zf_ald 0, zf_getR 4 2, zf_ild 4, zf_lld 1, zf_astL, zf_ic 1, zf_ist 5], 37),
  (37, [zf_ild 5, zf_ic 6, zf_ic2 .ge 61, zf_ald 0, zf_getR 4 2, zf_ild 4, zf_ild 5, zf_add, zf_lc 0, zf_astL, zf_inc 5 1, zf_go 37], 61),
  (61, [zf_ald 0, zf_dup, zf_getI 4 3, zf_ic 1, zf_add, zf_putI 4 3, zf_ret], 72)]
theorem zT4_1 (h : Nat) : zTab h 4 1 6 (zt4_1 h) := zTab.mk (ret := none) (bl := xk4_1) (by decide +kernel) (by decide +kernel) rfl rfl
def zt4_2 (h : Nat) : ZB := [(0, [zf_ic 1, zf_ist 1, zf_ic 0, zf_ist 2], 4),
  (4, [zf_ild 2, zf_ald 0, zf_getI 4 10, zf_ic2 .ge 37, zf_ild 1, zf_if .eq 37, zf_ald 0, zf_ild 2, zf_inv h 4 3 1, zf_ic 1, zf_ic2 .ne 29, zf_ic 1, zf_go 30], 29),
  (29, [zf_ic 0], 30),
  (30, [zf_ist 1, zf_inc 2 1, zf_go 4], 37),
  (37, [zf_ild 1, zf_retz], 39)]
theorem zT4_2 (h : Nat) : zTab h 4 2 3 (zt4_2 h) := zTab.mk (ret := (some .boolean)) (bl := xk4_2) (by decide +kernel) (by decide +kernel) rfl rfl
def zt4_3 (h : Nat) : ZB := [(0, [zf_ild 1, zf_if .lt 12, zf_ild 1, zf_ald 0, zf_getI 4 10, zf_ic2 .lt 14], 12),
  (12, [zf_ic (-1), zf_reti], 14),
  (14, [zf_ald 0, zf_ald 0, zf_getR 4 9, zf_ild 1, zf_aldI 100, zf_putI 4 16, zf_ald 0, zf_ic 0, zf_putI 4 17, zf_ald 0, zf_ic 0, zf_inv h 4 10 1, zf_lst 2, zf_ald 0, zf_getI 4 17, zf_if .eq 45, zf_ic (-2), zf_reti], 45),
  (45, [zf_lld 2, zf_lc 0, zf_lcmp, zf_if .eq 55, zf_ic 1, zf_go 56], 55),
  (55, [zf_ic 0], 56),
  (56, [zf_reti], 57)]
theorem zT4_3 (h : Nat) : zTab h 4 3 4 (zt4_3 h) := zTab.mk (ret := (some .int)) (bl := xk4_3) (by decide +kernel) (by decide +kernel) rfl rfl
def zt4_4 (h : Nat) : ZB := [(0, [zf_ald 0, zf_getR 4 0, zf_ald 0, zf_getI 4 16, zf_inv h 8 10 1, zf_ist 2, zf_ild 2, zf_inst h 8 6 1, zf_if .eq 24, zf_ald 0, zf_inv h 4 7 0, zf_retl], 24),
  (24, [zf_ald 0, zf_dup, zf_getI 4 16, zf_ic 1, zf_add, zf_putI 4 16, zf_ild 2, zf_inst h 8 9 1, zf_if .eq 51, zf_ald 0, zf_getR 4 1, zf_ild 2, zf_ic 97, zf_sub, zf_aldL, zf_retl], 51),
  (51, [zf_ild 2, zf_ic 35, zf_ic2 .ne 63, zf_ald 0, zf_getI 4 3, zf_i2l, zf_retl], 63),
  (63, [zf_ild 1, zf_ic 3, zf_ic2 .ge 79, zf_ald 0, zf_ild 2, zf_ild 1, zf_ic 1, zf_add, zf_inv h 4 6 2, zf_go 80], 79),
  (79, [zf_lc 0], 80),
  (80, [zf_retl], 81)]
theorem zT4_4 (h : Nat) : zTab h 4 4 3 (zt4_4 h) := zTab.mk (ret := (some .long)) (bl := xk4_4) (by decide +kernel) (by decide +kernel) rfl rfl
def zt4_5 (h : Nat) : ZB := [(0, [zf_ald 0, zf_ic 0, zf_putI 4 13, zf_ald 0, zf_ic (-1), zf_putI 4 14, zf_ald 0, zf_ic 0, zf_putI 4 15, zf_ret], 16)]
theorem zT4_5 (h : Nat) : zTab h 4 5 1 (zt4_5 h) := zTab.mk (ret := none) (bl := xk4_5) (by decide +kernel) (by decide +kernel) rfl rfl
def zt4_6 (h : Nat) : ZB := [(0, [zf_ild 1, zf_ic 40, zf_ic2 .ne 24, zf_ald 0, zf_ild 2, zf_inv h 4 10 1, zf_lst 3, zf_ald 0, zf_dup, zf_getI 4 16, zf_ic 1, zf_add, zf_putI 4 16, zf_lld 3, zf_retl], 24),
  (24, [zf_ald 0, zf_ild 2, zf_inv h 4 4 1, zf_lst 3, zf_ild 1, zf_ic 45, zf_ic2 .ne 39, zf_lld 3, zf_lneg, zf_retl], 39),
  (39, [zf_ild 1, zf_ic 64, zf_ic2 .ne 53, zf_ald 0, zf_lld 3, zf_inv h 4 11 1, zf_go 58], 53),
  (53, [zf_ald 0, zf_lld 3, zf_inv h 4 16 1], 58),
  (58, [zf_ist 5, zf_ild 5, zf_ic (-1), zf_ic2 .ne 68, zf_lc 0, zf_retl], 68),
  (68, [zf_ild 1, zf_ic 64, zf_ic2 .ne 84, zf_ald 0, zf_getR 4 2, zf_ild 5, zf_aldL, zf_go 91], 84),
  (84, [zf_ald 0, zf_getR 4 5, zf_ild 5, zf_aldL], 91),
  (91, [zf_retl], 92)]
theorem zT4_6 (h : Nat) : zTab h 4 6 6 (zt4_6 h) := zTab.mk (ret := (some .long)) (bl := xk4_6) (by decide +kernel) (by decide +kernel) rfl rfl
def zt4_7 (h : Nat) : ZB := [(0, [zf_lc 0, zf_lst 1, zf_ic 0, zf_ist 3], 4),
  (4, [zf_ild 3, zf_ic 4, zf_ic2 .ge 65, zf_ald 0, zf_getR 4 0, zf_ald 0, zf_getI 4 16, zf_inv h 8 10 1, zf_inst h 8 6 1, zf_if .eq 65, zf_lld 1, zf_lc 10, zf_lmul, zf_ald 0, zf_getR 4 0, zf_ald 0, zf_getI 4 16, zf_inv h 8 10 1, zf_i2l, zf_ladd, zf_lc 48, zf_lsub, zf_lst 1, zf_ald 0, zf_dup, zf_getI 4 16, zf_ic 1, zf_add, zf_putI 4 16, zf_inc 3 1, zf_go 4], 65),
  (65, [zf_lld 1, zf_retl], 67)]
theorem zT4_7 (h : Nat) : zTab h 4 7 4 (zt4_7 h) := zTab.mk (ret := (some .long)) (bl := xk4_7) (by decide +kernel) (by decide +kernel) rfl rfl
def zt4_8 (h : Nat) : ZB := [(0, [zf_lld 3, zf_lc 0, zf_lcmp, zf_if .ne 13, zf_ald 0, zf_ic 1, zf_inv h 4 21 1, zf_lc 0, zf_retl], 13),
  (13, [zf_ild 5, zf_if .eq 24, zf_lld 1, zf_lld 3, zf_ldiv, zf_go 27], 24),
  (24, [zf_lld 1, zf_lld 3, zf_lrem], 27),
  (27, [zf_retl], 28)]
theorem zT4_8 (h : Nat) : zTab h 4 8 6 (zt4_8 h) := zTab.mk (ret := (some .long)) (bl := xk4_8) (by decide +kernel) (by decide +kernel) rfl rfl
def zt4_9 (h : Nat) : ZB := [(0, [zf_ild 1, zf_sw 43 0 2 [28, 33, 38]], 28),
  (28, [zf_ald 0, zf_getI 4 13, zf_reti], 33),
  (33, [zf_ald 0, zf_getI 4 14, zf_reti], 38),
  (38, [zf_ald 0, zf_getI 4 15, zf_reti], 43),
  (43, [zf_ic (-1), zf_reti], 45)]
theorem zT4_9 (h : Nat) : zTab h 4 9 2 (zt4_9 h) := zTab.mk (ret := (some .int)) (bl := xk4_9) (by decide +kernel) (by decide +kernel) rfl rfl
def zt4_10 (h : Nat) : ZB := [(0, [zf_ald 0, zf_ild 1, zf_inv h 4 26 1, zf_lst 2, zf_ald 0, zf_getR 4 0, zf_ald 0, zf_getI 4 16, zf_inv h 8 10 1, zf_ist 4, zf_ild 4, zf_ic 60, zf_ic2 .eq 35, zf_ild 4, zf_ic 61, zf_ic2 .eq 35, zf_lld 2, zf_retl], 35),
  (35, [zf_ald 0, zf_dup, zf_getI 4 16, zf_ic 1, zf_add, zf_putI 4 16, zf_ald 0, zf_ild 1, zf_inv h 4 26 1, zf_lst 5, zf_ild 4, zf_ic 60, zf_ic2 .ne 74, zf_lld 2, zf_lld 5, zf_lcmp, zf_if .ge 70, zf_ic 1, zf_go 86], 70),
  (70, [zf_ic 0, zf_go 86], 74),
  (74, [zf_lld 2, zf_lld 5, zf_lcmp, zf_if .ne 85, zf_ic 1, zf_go 86], 85),
  (85, [zf_ic 0], 86),
  (86, [zf_ist 7, zf_ild 7, zf_if .eq 97, zf_lc 1, zf_go 98], 97),
  (97, [zf_lc 0], 98),
  (98, [zf_retl], 99)]
theorem zT4_10 (h : Nat) : zTab h 4 10 8 (zt4_10 h) := zTab.mk (ret := (some .long)) (bl := xk4_10) (by decide +kernel) (by decide +kernel) rfl rfl
def zt4_11 (h : Nat) : ZB := [(0, [zf_ald 0, zf_getR 4 0, zf_ald 0, zf_getI 4 16, zf_ic 1, zf_add, zf_inv h 8 10 1, zf_ic 48, zf_sub, zf_ist 3, zf_ald 0, zf_dup, zf_getI 4 16, zf_ic 2, zf_add, zf_putI 4 16, zf_lld 1, zf_lc 0, zf_lcmp, zf_if .lt 53, zf_lld 1, zf_ald 0, zf_getI 4 3, zf_i2l, zf_lcmp, zf_if .ge 53, zf_ild 3, zf_if .lt 53, zf_ild 3, zf_ic 6, zf_ic2 .lt 60], 53),
  (53, [zf_ald 0, zf_ic 2, zf_inv h 4 21 1, zf_ic (-1), zf_reti], 60),
  (60, [zf_lld 1, zf_l2i, zf_ic 6, zf_mul, zf_ild 3, zf_add, zf_reti], 68)]
theorem zT4_11 (h : Nat) : zTab h 4 11 4 (zt4_11 h) := zTab.mk (ret := (some .int)) (bl := xk4_11) (by decide +kernel) (by decide +kernel) rfl rfl
def zt4_12 (h : Nat) : ZB := [(0, [zf_ald 0, zf_ild 1, zf_putI 4 13, zf_ald 0, zf_ild 2, zf_putI 4 14, zf_ald 0, zf_ild 3, zf_putI 4 15, zf_ret], 16)]
theorem zT4_12 (h : Nat) : zTab h 4 12 4 (zt4_12 h) := zTab.mk (ret := none) (bl := xk4_12) (by decide +kernel) (by decide +kernel) rfl rfl
def zt4_13 (h : Nat) : ZB := [(0, [zf_ic 0, zf_ist 2], 2),
  (2, [zf_ild 2, zf_ald 0, zf_getR 4 1, zf_len, zf_ic2 .ge 24, zf_ald 0, zf_getR 4 1, zf_ild 2, zf_lc 0, zf_astL, zf_inc 2 1, zf_go 2], 24),
  (24, [zf_ald 0, zf_ic 0, zf_putI 4 8, zf_ald 0, zf_ic 0, zf_putI 4 10, zf_ald 0, zf_inv h 4 5 0, zf_ald 0, zf_ild 1, zf_putI 4 11, zf_ald 0, zf_ic 0, zf_putZ 4 12, zf_ald 0, zf_ic 0, zf_ic 400, zf_ic 0, zf_ic 0, zf_inv h 4 30 4, zf_ald 0, zf_getI 4 12, zf_if .eq 71, zf_ald 0, zf_inv h 4 5 0, zf_ic 2, zf_reti], 71),
  (71, [zf_ald 0, zf_getI 4 13, zf_if .ne 82, zf_ic 0, zf_go 83], 82),
  (82, [zf_ic 1], 83),
  (83, [zf_reti], 84)]
theorem zT4_13 (h : Nat) : zTab h 4 13 3 (zt4_13 h) := zTab.mk (ret := (some .int)) (bl := xk4_13) (by decide +kernel) (by decide +kernel) rfl rfl
def zt4_15 (h : Nat) : ZB := [(0, [zf_ald 0, zf_getI 4 12, zf_if .ne 18, zf_ald 0, zf_getI 4 13, zf_if .ne 18, zf_ic 1, zf_go 19], 18),
  (18, [zf_ic 0], 19),
  (19, [zf_retz], 20)]
theorem zT4_15 (h : Nat) : zTab h 4 15 1 (zt4_15 h) := zTab.mk (ret := (some .boolean)) (bl := xk4_15) (by decide +kernel) (by decide +kernel) rfl rfl
def zt4_16 (h : Nat) : ZB := [(0, [zf_lld 1, zf_lc 0, zf_lcmp, zf_if .lt 16, zf_lld 1, zf_ald 0, zf_getI 4 6, zf_i2l, zf_lcmp, zf_if .lt 23], 16),
  (16, [zf_ald 0, zf_ic 2, zf_inv h 4 21 1, zf_ic (-1), zf_reti], 23),
  (23, [zf_lld 1, zf_l2i, zf_reti], 26)]
theorem zT4_16 (h : Nat) : zTab h 4 16 3 (zt4_16 h) := zTab.mk (ret := (some .int)) (bl := xk4_16) (by decide +kernel) (by decide +kernel) rfl rfl
def zt4_17 (h : Nat) : ZB := [(0, [zf_lld 1, zf_lc 0, zf_lcmp, zf_if .lt 14, zf_lld 1, zf_lc 20, zf_lcmp, zf_if .le 22], 14),
  (14, [zf_ald 0, zf_ic 3, zf_ild 3, zf_ic 0, zf_inv h 4 12 3, zf_ret], 22),
  (22, [zf_ald 0, zf_lld 1, zf_l2i, zf_putI 4 6, zf_ic 0, zf_ist 4], 31),
  (31, [zf_ild 4, zf_ic 20, zf_ic2 .ge 52, zf_ald 0, zf_getR 4 5, zf_ild 4, zf_lc 0, zf_astL, zf_inc 4 1, zf_go 31], 52),
  (52, [zf_ret], 53)]
theorem zT4_17 (h : Nat) : zTab h 4 17 5 (zt4_17 h) := zTab.mk (ret := none) (bl := xk4_17) (by decide +kernel) (by decide +kernel) rfl rfl
def zt4_18 (h : Nat) : ZB := [(0, [zf_ald 0, zf_ild 1, zf_inv h 4 4 1, zf_lst 2, zf_ald 0, zf_getR 4 0, zf_ald 0, zf_getI 4 16, zf_inv h 8 10 1, zf_ist 4, zf_ic 0, zf_ist 5], 22),
  (22, [zf_ild 5, zf_ic 400, zf_ic2 .ge 121, zf_ild 4, zf_ic 42, zf_ic2 .eq 51, zf_ild 4, zf_ic 47, zf_ic2 .eq 51, zf_ild 4, zf_ic 37, zf_ic2 .ne 121], 51),
  (51, [zf_ald 0, zf_dup, zf_getI 4 16, zf_ic 1, zf_add, zf_putI 4 16, zf_ald 0, zf_ild 1, zf_inv h 4 4 1, zf_lst 6, zf_ild 4, zf_ic 42, zf_ic2 .ne 82, zf_lld 2, zf_lld 6, zf_lmul, zf_go 101], 82),
  (82, [zf_ald 0, zf_lld 2, zf_lld 6, zf_ild 4, zf_ic 47, zf_ic2 .ne 97, zf_ic 1, zf_go 98], 97),
  (97, [zf_ic 0], 98),
  (98, [zf_inv h 4 8 3], 101),
  (101, [zf_lst 2, zf_ald 0, zf_getR 4 0, zf_ald 0, zf_getI 4 16, zf_inv h 8 10 1, zf_ist 4, zf_inc 5 1, zf_go 22], 121),
  (121, [zf_lld 2, zf_retl], 123)]
theorem zT4_18 (h : Nat) : zTab h 4 18 8 (zt4_18 h) := zTab.mk (ret := (some .long)) (bl := xk4_18) (by decide +kernel) (by decide +kernel) rfl rfl
def zt4_19 (h : Nat) : ZB := [(0, [zf_ald 0, zf_getI 4 8, zf_ic 40, zf_ic2 .ge 29, zf_ald 0, zf_getR 4 7, zf_ald 0, zf_getI 4 8, zf_lld 1, zf_astL, zf_ald 0, zf_dup, zf_getI 4 8, zf_ic 1, zf_add, zf_putI 4 8], 29),
  (29, [zf_ret], 30)]
theorem zT4_19 (h : Nat) : zTab h 4 19 3 (zt4_19 h) := zTab.mk (ret := none) (bl := xk4_19) (by decide +kernel) (by decide +kernel) rfl rfl
def zt4_20 (h : Nat) : ZB := [(0, [zf_ald 0, zf_getR 4 1, zf_ic 25, zf_aldL, zf_lst 2, zf_ic 0, zf_ist 4], 11),
  (11, [zf_ild 4, zf_ald 0, zf_getI 4 3, zf_ic2 .ge 52, zf_ald 0, zf_inv h 4 15 0, zf_if .eq 52, zf_ald 0, zf_getR 4 1, zf_ic 25, zf_ild 4, zf_i2l, zf_astL, zf_ald 0, zf_ild 1, zf_ic 1, zf_add, zf_ild 1, zf_inv h 4 22 2, zf_pop2, zf_inc 4 1, zf_go 11], 52),
  (52, [zf_ald 0, zf_inv h 4 15 0, zf_if .eq 67, zf_ald 0, zf_getR 4 1, zf_ic 25, zf_lld 2, zf_astL], 67),
  (67, [zf_ald 0, zf_getR 4 0, zf_ild 1, zf_inv h 8 0 1, zf_reti], 76)]
theorem zT4_20 (h : Nat) : zTab h 4 20 5 (zt4_20 h) := zTab.mk (ret := (some .int)) (bl := xk4_20) (by decide +kernel) (by decide +kernel) rfl rfl
def zt4_21 (h : Nat) : ZB := [(0, [zf_ald 0, zf_getI 4 17, zf_if .ne 12, zf_ald 0, zf_ild 1, zf_putI 4 17], 12),
  (12, [zf_ret], 13)]
theorem zT4_21 (h : Nat) : zTab h 4 21 2 (zt4_21 h) := zTab.mk (ret := none) (bl := xk4_21) (by decide +kernel) (by decide +kernel) rfl rfl
def zt4_22 (h : Nat) : ZB := [(0, [zf_ald 0, zf_ild 1, zf_putI 4 16, zf_ald 0, zf_ic 0, zf_putI 4 17, zf_ald 0, zf_ic 0, zf_inv h 4 10 1, zf_lst 3, zf_ald 0, zf_getI 4 17, zf_if .eq 33, zf_ald 0, zf_ald 0, zf_getI 4 17, zf_ild 2, zf_ic 0, zf_inv h 4 12 3], 33),
  (33, [zf_lld 3, zf_retl], 35)]
theorem zT4_22 (h : Nat) : zTab h 4 22 5 (zt4_22 h) := zTab.mk (ret := (some .long)) (bl := xk4_22) (by decide +kernel) (by decide +kernel) rfl rfl
def zt4_23 (h : Nat) : ZB := [(0, [zf_ald 0, zf_ild 1, zf_ic 1, zf_add, zf_putI 4 16, zf_ald 0, zf_ic 0, zf_putI 4 17, zf_ald 0, zf_ald 0, zf_ic 0, zf_inv h 4 4 1, zf_inv h 4 11 1, zf_ist 2, zf_ald 0, zf_inv h 4 29 0, zf_lst 3, zf_ald 0, zf_getI 4 17, zf_if .eq 47, zf_ald 0, zf_ald 0, zf_getI 4 17, zf_ild 1, zf_ic 0, zf_inv h 4 12 3, zf_go 59], 47),
  (47, [zf_ild 2, zf_ic (-1), zf_ic2 .eq 59, zf_ald 0, zf_getR 4 2, zf_ild 2, zf_lld 3, zf_astL], 59),
  (59, [zf_ald 0, zf_getI 4 16, zf_ic 1, zf_add, zf_reti], 66)]
theorem zT4_23 (h : Nat) : zTab h 4 23 5 (zt4_23 h) := zTab.mk (ret := (some .int)) (bl := xk4_23) (by decide +kernel) (by decide +kernel) rfl rfl
def zt4_24 (h : Nat) : ZB := [(0, [zf_ald 0, zf_ild 1, zf_ic 1, zf_add, zf_putI 4 16, zf_ald 0, zf_ic 0, zf_putI 4 17, zf_ald 0, zf_ald 0, zf_ic 0, zf_inv h 4 4 1, zf_inv h 4 16 1, zf_ist 2, zf_ald 0, zf_inv h 4 29 0, zf_lst 3, zf_ald 0, zf_getI 4 17, zf_if .eq 47, zf_ald 0, zf_ald 0, zf_getI 4 17, zf_ild 1, zf_ic 0, zf_inv h 4 12 3, zf_go 59], 47),
  (47, [zf_ild 2, zf_ic (-1), zf_ic2 .eq 59, zf_ald 0, zf_getR 4 5, zf_ild 2, zf_lld 3, zf_astL], 59),
  (59, [zf_ald 0, zf_getI 4 16, zf_ic 1, zf_add, zf_reti], 66)]
theorem zT4_24 (h : Nat) : zTab h 4 24 5 (zt4_24 h) := zTab.mk (ret := (some .int)) (bl := xk4_24) (by decide +kernel) (by decide +kernel) rfl rfl
def zt4_25 (h : Nat) : ZB := [(0, [zf_ald 0, zf_getI 4 11, zf_if .gt 14, zf_ald 0, zf_ic 1, zf_putZ 4 12, zf_ic 0, zf_retz], 14),
  (14, [zf_ald 0, zf_dup, zf_getI 4 11, zf_ic 1, zf_sub, zf_putI 4 11, zf_ic 1, zf_retz], 26)]
theorem zT4_25 (h : Nat) : zTab h 4 25 1 (zt4_25 h) := zTab.mk (ret := (some .boolean)) (bl := xk4_25) (by decide +kernel) (by decide +kernel) rfl rfl
def zt4_26 (h : Nat) : ZB := [(0, [zf_ald 0, zf_ild 1, zf_inv h 4 18 1, zf_lst 2, zf_ald 0, zf_getR 4 0, zf_ald 0, zf_getI 4 16, zf_inv h 8 10 1, zf_ist 4, zf_ic 0, zf_ist 5], 22),
  (22, [zf_ild 5, zf_ic 400, zf_ic2 .ge 99, zf_ild 4, zf_ic 43, zf_ic2 .eq 44, zf_ild 4, zf_ic 45, zf_ic2 .ne 99], 44),
  (44, [zf_ald 0, zf_dup, zf_getI 4 16, zf_ic 1, zf_add, zf_putI 4 16, zf_ald 0, zf_ild 1, zf_inv h 4 18 1, zf_lst 6, zf_ild 4, zf_ic 43, zf_ic2 .ne 75, zf_lld 2, zf_lld 6, zf_ladd, zf_go 79], 75),
  (75, [zf_lld 2, zf_lld 6, zf_lsub], 79),
  (79, [zf_lst 2, zf_ald 0, zf_getR 4 0, zf_ald 0, zf_getI 4 16, zf_inv h 8 10 1, zf_ist 4, zf_inc 5 1, zf_go 22], 99),
  (99, [zf_lld 2, zf_retl], 101)]
theorem zT4_26 (h : Nat) : zTab h 4 26 8 (zt4_26 h) := zTab.mk (ret := (some .long)) (bl := xk4_26) (by decide +kernel) (by decide +kernel) rfl rfl
def zt4_27 (h : Nat) : ZB := [(0, [zf_ald 0, zf_ald 1, zf_putR 4 0, zf_ald 0, zf_ic 0, zf_putI 4 8, zf_ald 0, zf_ic 0, zf_putI 4 10, zf_ald 0, zf_inv h 4 5 0, zf_ret], 20)]
theorem zT4_27 (h : Nat) : zTab h 4 27 2 (zt4_27 h) := zTab.mk (ret := none) (bl := xk4_27) (by decide +kernel) (by decide +kernel) rfl rfl
def zt4_28 (h : Nat) : ZB := [(0, [zf_ald 0, zf_ic 12, zf_putI 4 3, zf_ic 0, zf_ist 3], 8),
  (8, [zf_ild 3, zf_ic 12, zf_ic2 .ge 200, zf_ild 3, zf_ic 6, zf_mul, zf_ist 4, zf_ild 3, zf_ald 1, zf_getR 0 11, zf_getI 7 2, zf_ic2 .ge 35, zf_ic 1, zf_go 36], 35),
  (35, [zf_ic 0], 36),
  (36, [zf_ist 5, zf_ild 5, zf_if .eq 58, zf_ald 2, zf_getI 1 0, zf_ald 1, zf_getI 0 0, zf_ic2 .ne 58, zf_ic 1, zf_go 59], 58),
  (58, [zf_ic 0], 59),
  (59, [zf_ist 6, zf_ald 0, zf_getR 4 2, zf_ild 4, zf_ald 1, zf_getR 0 11, zf_ild 3, zf_ic 0, zf_inv h 7 1 2, zf_i2l, zf_astL, zf_ald 0, zf_getR 4 2, zf_ild 4, zf_ic 1, zf_add, zf_ald 1, zf_getR 0 11, zf_ild 3, zf_ic 1, zf_inv h 7 1 2, zf_i2l, zf_astL, zf_ald 0, zf_getR 4 2, zf_ild 4, zf_ic 2, zf_add, zf_ald 1, zf_getR 0 11, zf_ild 3, zf_ic 2, zf_inv h 7 1 2, zf_i2l, zf_astL, zf_ald 0, zf_getR 4 2, zf_ild 4, zf_ic 3, zf_add, zf_ald 1, zf_ild 3, zf_inv h 0 12 1, zf_if .eq 145, zf_ald 1, zf_getR 0 11, zf_ild 3, zf_ic 3, zf_inv h 7 1 2, zf_i2l, zf_go 148], 145),
  (145, [zf_lc (-1)], 148),
  (148, [zf_astL, zf_ald 0, zf_getR 4 2, zf_ild 4, zf_ic 4, zf_add, zf_ald 1, zf_getR 0 11, zf_ild 3, zf_ic 4, zf_inv h 7 1 2, zf_i2l, zf_astL, zf_ald 0, zf_getR 4 2, zf_ild 4, zf_ic 5, zf_add, zf_ild 6, zf_if .eq 190, zf_ald 2, zf_ild 3, zf_inv h 1 5 1, zf_i2l, zf_go 193], 190),
  (190, [zf_lc (-1)], 193),
  (193, [zf_astL, zf_inc 3 1, zf_go 8], 200),
  (200, [zf_ret], 201)]
theorem zT4_28 (h : Nat) : zTab h 4 28 7 (zt4_28 h) := zTab.mk (ret := none) (bl := xk4_28) (by decide +kernel) (by decide +kernel) rfl rfl
def zt4_29 (h : Nat) : ZB := [(0, [zf_ald 0, zf_dup, zf_getI 4 16, zf_ic 1, zf_add, zf_putI 4 16, zf_ald 0, zf_ic 0, zf_inv h 4 10 1, zf_retl], 16)]
theorem zT4_29 (h : Nat) : zTab h 4 29 1 (zt4_29 h) := zTab.mk (ret := (some .long)) (bl := xk4_29) (by decide +kernel) (by decide +kernel) rfl rfl
def zt4_30 (h : Nat) : ZB := [(0, [zf_ild 1, zf_ist 5, zf_ic 0, zf_ist 6], 6),
  (6, [zf_ild 6, zf_ic 400, zf_ic2 .gt 83, zf_ild 5, zf_ild 2, zf_ic2 .ge 83, zf_ald 0, zf_inv h 4 15 0, zf_if .eq 83, zf_ild 4, zf_ic 10, zf_ic2 .ge 83, zf_ald 0, zf_getR 4 0, zf_ild 5, zf_inv h 8 10 1, zf_ist 7, zf_ild 7, zf_ic (-1), zf_ic2 .ne 52, zf_ret], 52),
  (52, [zf_ild 7, zf_ic 10, zf_ic2 .ne 66, zf_ild 5, zf_ic 1, zf_add, zf_go 75], 66),
  (66, [zf_ald 0, zf_ild 5, zf_ild 3, zf_ild 4, zf_inv h 4 38 3], 75),
  (75, [zf_ist 5, zf_inc 6 1, zf_go 6], 83),
  (83, [zf_ret], 84)]
theorem zT4_30 (h : Nat) : zTab h 4 30 8 (zt4_30 h) := zTab.mk (ret := none) (bl := xk4_30) (by decide +kernel) (by decide +kernel) rfl rfl
def zt4_31 (h : Nat) : ZB := [(0, [zf_ald 0, zf_getI 4 3, zf_ist 4, zf_ild 3, zf_ic 12, zf_mul, zf_ic 6, zf_mul, zf_ist 5, zf_ald 0, zf_getR 4 2, zf_ic 0, zf_ald 0, zf_getR 4 4, zf_ild 5, zf_ic 72, zf_copy, zf_ald 0, zf_ild 1, zf_ild 2, zf_ild 3, zf_inv h 4 32 3, zf_ist 6, zf_ald 0, zf_getI 4 13, zf_if .eq 76, zf_ald 0, zf_getI 4 12, zf_if .ne 76, zf_ald 0, zf_ild 4, zf_putI 4 3, zf_ald 0, zf_getR 4 4, zf_ild 5, zf_ald 0, zf_getR 4 2, zf_ic 0, zf_ic 72, zf_copy], 76),
  (76, [zf_ild 6, zf_reti], 79)]
theorem zT4_31 (h : Nat) : zTab h 4 31 7 (zt4_31 h) := zTab.mk (ret := (some .int)) (bl := xk4_31) (by decide +kernel) (by decide +kernel) rfl rfl
def zt4_32 (h : Nat) : ZB := [(0, [zf_ald 0, zf_ild 1, zf_ic 1, zf_add, zf_ald 0, zf_getR 4 0, zf_ild 1, zf_inv h 8 1 1, zf_ild 2, zf_ild 3, zf_ic 1, zf_add, zf_inv h 4 30 4, zf_ald 0, zf_getR 4 0, zf_ild 1, zf_inv h 8 1 1, zf_ic 1, zf_add, zf_reti], 30)]
theorem zT4_32 (h : Nat) : zTab h 4 32 4 (zt4_32 h) := zTab.mk (ret := (some .int)) (bl := xk4_32) (by decide +kernel) (by decide +kernel) rfl rfl
def zt4_33 (h : Nat) : ZB := [(0, [zf_ald 0, zf_getR 4 0, zf_ald 0, zf_getR 4 0, zf_ild 1, zf_inv h 8 10 1, zf_inv h 8 4 1, zf_ist 4, zf_ild 4, zf_ic (-1), zf_ic2 .ne 34, zf_ald 0, zf_ic 6, zf_ild 1, zf_ic 0, zf_inv h 4 12 3, zf_go 60], 34),
  (34, [zf_ild 2, zf_ic 2, zf_ic2 .lt 49, zf_ald 0, zf_ic 5, zf_ild 1, zf_ic 0, zf_inv h 4 12 3, zf_go 60], 49),
  (49, [zf_ald 0, zf_ild 4, zf_ild 2, zf_ic 1, zf_add, zf_ild 3, zf_inv h 4 32 3, zf_pop], 60),
  (60, [zf_ild 1, zf_ic 2, zf_add, zf_reti], 64)]
theorem zT4_33 (h : Nat) : zTab h 4 33 5 (zt4_33 h) := zTab.mk (ret := (some .int)) (bl := xk4_33) (by decide +kernel) (by decide +kernel) rfl rfl
def zt4_34 (h : Nat) : ZB := [(0, [zf_ald 0, zf_ild 1, zf_ic 1, zf_add, zf_ild 1, zf_inv h 4 22 2, zf_lst 4, zf_ald 0, zf_getI 4 16, zf_ist 6, zf_ald 0, zf_getR 4 0, zf_ild 6, zf_inv h 8 1 1, zf_ic 1, zf_add, zf_ist 7, zf_ald 0, zf_getR 4 0, zf_ild 7, zf_inv h 8 10 1, zf_ic 123, zf_ic2 .ne 47, zf_ic 1, zf_go 48], 47),
  (47, [zf_ic 0], 48),
  (48, [zf_ist 8, zf_ald 0, zf_inv h 4 15 0, zf_if .eq 76, zf_lld 4, zf_lc 0, zf_lcmp, zf_if .eq 76, zf_ald 0, zf_ild 6, zf_ild 2, zf_ild 3, zf_inv h 4 32 3, zf_pop, zf_go 97], 76),
  (76, [zf_ald 0, zf_inv h 4 15 0, zf_if .eq 97, zf_ild 8, zf_if .eq 97, zf_ald 0, zf_ild 7, zf_ild 2, zf_ild 3, zf_inv h 4 32 3, zf_pop], 97),
  (97, [zf_ild 8, zf_if .eq 116, zf_ald 0, zf_getR 4 0, zf_ild 7, zf_inv h 8 1 1, zf_ic 1, zf_add, zf_go 118], 116),
  (116, [zf_ild 7], 118),
  (118, [zf_reti], 119)]
theorem zT4_34 (h : Nat) : zTab h 4 34 9 (zt4_34 h) := zTab.mk (ret := (some .int)) (bl := xk4_34) (by decide +kernel) (by decide +kernel) rfl rfl
def zt4_35 (h : Nat) : ZB := [(0, [zf_ald 0, zf_ild 1, zf_ic 1, zf_add, zf_ild 2, zf_ild 3, zf_inv h 4 32 3, zf_ist 4, zf_ald 0, zf_getI 4 13, zf_ist 5, zf_ald 0, zf_getI 4 14, zf_ist 6, zf_ald 0, zf_getI 4 15, zf_ist 7, zf_ald 0, zf_inv h 4 5 0, zf_ald 0, zf_getI 4 12, zf_if .ne 49, zf_ald 0, zf_ild 4, zf_ild 2, zf_ild 3, zf_inv h 4 32 3, zf_pop], 49),
  (49, [zf_ald 0, zf_getI 4 13, zf_if .ne 66, zf_ald 0, zf_ild 5, zf_ild 6, zf_ild 7, zf_inv h 4 12 3], 66),
  (66, [zf_ald 0, zf_getR 4 0, zf_ild 4, zf_inv h 8 1 1, zf_ic 1, zf_add, zf_reti], 78)]
theorem zT4_35 (h : Nat) : zTab h 4 35 8 (zt4_35 h) := zTab.mk (ret := (some .int)) (bl := xk4_35) (by decide +kernel) (by decide +kernel) rfl rfl
def zt4_36 (h : Nat) : ZB := [(0, [zf_ic 1, zf_ist 4, zf_ild 1, zf_ist 5, zf_ic 0, zf_ist 6], 9),
  (9, [zf_ild 6, zf_ic 300, zf_ic2 .gt 108, zf_ild 4, zf_if .eq 108, zf_ald 0, zf_inv h 4 15 0, zf_if .eq 108, zf_ald 0, zf_inv h 4 25 0, zf_ist 4, zf_ild 4, zf_if .eq 86, zf_ald 0, zf_ild 1, zf_ic 1, zf_add, zf_ild 1, zf_inv h 4 22 2, zf_lst 7, zf_ald 0, zf_getR 4 0, zf_ald 0, zf_getI 4 16, zf_inv h 8 1 1, zf_ic 1, zf_add, zf_ist 5, zf_ald 0, zf_inv h 4 15 0, zf_if .eq 83, zf_lld 7, zf_lc 0, zf_lcmp, zf_if .eq 83, zf_ic 1, zf_go 84], 83),
  (83, [zf_ic 0], 84),
  (84, [zf_ist 4], 86),
  (86, [zf_ild 4, zf_if .eq 102, zf_ald 0, zf_ald 0, zf_getI 4 16, zf_ild 2, zf_ild 3, zf_inv h 4 32 3, zf_pop], 102),
  (102, [zf_inc 6 1, zf_go 9], 108),
  (108, [zf_ild 5, zf_reti], 111)]
theorem zT4_36 (h : Nat) : zTab h 4 36 9 (zt4_36 h) := zTab.mk (ret := (some .int)) (bl := xk4_36) (by decide +kernel) (by decide +kernel) rfl rfl
def zt4_37 (h : Nat) : ZB := [(0, [zf_ald 0, zf_getR 4 0, zf_ild 1, zf_inv h 8 10 1, zf_ist 2, zf_ild 2, zf_inst h 8 9 1, zf_ist 3, zf_ald 0, zf_ild 3, zf_if .eq 25, zf_ild 1, zf_ic 2, zf_add, zf_go 28], 25),
  (25, [zf_ild 1, zf_ic 1, zf_add], 28),
  (28, [zf_ild 1, zf_inv h 4 22 2, zf_lst 4, zf_ald 0, zf_inv h 4 15 0, zf_if .eq 115, zf_ild 3, zf_if .eq 59, zf_ald 0, zf_getR 4 1, zf_ild 2, zf_ic 97, zf_sub, zf_lld 4, zf_astL, zf_go 115], 59),
  (59, [zf_ild 2, zf_ic 33, zf_ic2 .ne 74, zf_ald 0, zf_lld 4, zf_inv h 4 19 1, zf_go 115], 74),
  (74, [zf_ild 2, zf_ic 94, zf_ic2 .ne 92, zf_ald 0, zf_ic 4, zf_ild 1, zf_lld 4, zf_l2i, zf_inv h 4 12 3, zf_go 115], 92),
  (92, [zf_ild 2, zf_ic 43, zf_ic2 .ne 108, zf_ald 0, zf_lld 4, zf_ild 1, zf_inv h 4 1 2, zf_go 115], 108),
  (108, [zf_ald 0, zf_lld 4, zf_ild 1, zf_inv h 4 17 2], 115),
  (115, [zf_ald 0, zf_getI 4 16, zf_ic 1, zf_add, zf_reti], 122)]
theorem zT4_37 (h : Nat) : zTab h 4 37 6 (zt4_37 h) := zTab.mk (ret := (some .int)) (bl := xk4_37) (by decide +kernel) (by decide +kernel) rfl rfl
def zt4_38 (h : Nat) : ZB := [(0, [zf_ald 0, zf_getR 4 0, zf_ild 1, zf_inv h 8 10 1, zf_ist 4, zf_ild 4, zf_ic 58, zf_ic2 .ne 30, zf_ald 0, zf_getR 4 0, zf_ild 1, zf_ic 2, zf_add, zf_inv h 8 1 1, zf_ic 1, zf_add, zf_reti], 30),
  (30, [zf_ild 4, zf_ic 42, zf_ic2 .ne 45, zf_ald 0, zf_ild 1, zf_ild 2, zf_ild 3, zf_inv h 4 36 3, zf_reti], 45),
  (45, [zf_ald 0, zf_inv h 4 25 0, zf_if .ne 54, zf_ild 1, zf_reti], 54),
  (54, [zf_ild 4, zf_inst h 8 7 1, zf_if .eq 70, zf_ald 0, zf_ild 1, zf_ild 2, zf_ild 3, zf_inv h 4 33 3, zf_reti], 70),
  (70, [zf_ild 4, zf_lk 188 [(38, 176), (39, 170), (63, 140), (64, 164), (91, 148), (124, 182), (126, 156)]], 140),
  (140, [zf_ald 0, zf_ild 1, zf_ild 2, zf_ild 3, zf_inv h 4 34 3, zf_reti], 148),
  (148, [zf_ald 0, zf_ild 1, zf_ild 2, zf_ild 3, zf_inv h 4 31 3, zf_reti], 156),
  (156, [zf_ald 0, zf_ild 1, zf_ild 2, zf_ild 3, zf_inv h 4 35 3, zf_reti], 164),
  (164, [zf_ald 0, zf_ild 1, zf_inv h 4 23 1, zf_reti], 170),
  (170, [zf_ald 0, zf_ild 1, zf_inv h 4 24 1, zf_reti], 176),
  (176, [zf_ald 0, zf_ild 1, zf_inv h 4 0 1, zf_reti], 182),
  (182, [zf_ald 0, zf_ild 1, zf_inv h 4 20 1, zf_reti], 188),
  (188, [zf_ald 0, zf_ild 1, zf_inv h 4 37 1, zf_reti], 194)]
theorem zT4_38 (h : Nat) : zTab h 4 38 5 (zt4_38 h) := zTab.mk (ret := (some .int)) (bl := xk4_38) (by decide +kernel) (by decide +kernel) rfl rfl
