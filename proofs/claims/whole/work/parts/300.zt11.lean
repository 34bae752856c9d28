/-! TABLES of what methods of class 11 ask -/
def zt11_0 (h : Nat) : ZB := [(0, [zf_ald 0, zf_getI 11 14, zf_if .ne 11, zf_ic (-1), zf_go 21], 11),
  (11, [zf_ald 0, zf_getR 11 12, zf_ild 1, zf_ild 2, zf_ild 3, zf_inv h 1 6 3], 21),
  (21, [zf_reti], 22)]
theorem zT11_0 (h : Nat) : zTab h 11 0 4 (zt11_0 h) := zTab.mk (ret := (some .int)) (bl := xk11_0) (by decide +kernel) (by decide +kernel) rfl rfl
def zt11_1 (h : Nat) : ZB := [(0, [zf_ald 0, zf_ild 1, zf_if .ge 10, zf_ild 1, zf_neg, zf_go 11], 10),
  (10, [zf_ic 0], 11),
  (11, [zf_putI 11 3, zf_ild 1, zf_if .ge 22, zf_ic (-1), zf_go 23], 22),
  (22, [zf_ild 1], 23),
  (23, [zf_reti], 24)]
theorem zT11_1 (h : Nat) : zTab h 11 1 2 (zt11_1 h) := zTab.mk (ret := (some .int)) (bl := xk11_1) (by decide +kernel) (by decide +kernel) rfl rfl
def zt11_2 (h : Nat) : ZB := [(0, [zf_ald 0, zf_ald 0, zf_getR 11 19, zf_ild 1, zf_ild 2, zf_ild 3, zf_inv h 5 23 3, zf_inv h 11 1 1, zf_reti], 15)]
theorem zT11_2 (h : Nat) : zTab h 11 2 4 (zt11_2 h) := zTab.mk (ret := (some .int)) (bl := xk11_2) (by decide +kernel) (by decide +kernel) rfl rfl
def zt11_3 (h : Nat) : ZB := [(0, [zf_ald 0, zf_ald 0, zf_getR 11 9, zf_ild 1, zf_ild 2, zf_ild 3, zf_inv h 0 2 3, zf_inv h 11 22 1, zf_retz], 15)]
theorem zT11_3 (h : Nat) : zTab h 11 3 4 (zt11_3 h) := zTab.mk (ret := (some .boolean)) (bl := xk11_3) (by decide +kernel) (by decide +kernel) rfl rfl
def zt11_4 (h : Nat) : ZB := [(0, [zf_ald 0, zf_getR 11 9, zf_ild 1, zf_ild 2, zf_inv h 0 4 2, zf_reti], 10)]
theorem zT11_4 (h : Nat) : zTab h 11 4 3 (zt11_4 h) := zTab.mk (ret := (some .int)) (bl := xk11_4) (by decide +kernel) (by decide +kernel) rfl rfl
def zt11_5 (h : Nat) : ZB := [(0, [zf_ald 0, zf_getR 11 8, zf_getI 3 15, zf_if .ne 17, zf_ald 0, zf_ic (-3), zf_inv h 11 1 1, zf_reti], 17),
  (17, [zf_ald 0, zf_getR 11 9, zf_getI 0 0, zf_ic 1, zf_add, zf_ic 6, zf_ic2 .lt 37, zf_ald 0, zf_ic (-1), zf_inv h 11 1 1, zf_reti], 37),
  (37, [zf_ald 0, zf_getR 11 9, zf_ild 1, zf_ic 16, zf_inst h 11 57 2, zf_ild 2, zf_ic 16, zf_inst h 11 57 2, zf_ild 3, zf_ic 4, zf_inst h 11 57 2, zf_lld 4, zf_inv h 0 3 4, zf_ald 0, zf_getR 11 9, zf_ald 0, zf_getR 11 8, zf_inv h 0 25 1, zf_ald 0, zf_ald 0, zf_getR 11 9, zf_getI 0 0, zf_inv h 11 1 1, zf_reti], 86)]
theorem zT11_5 (h : Nat) : zTab h 11 5 6 (zt11_5 h) := zTab.mk (ret := (some .int)) (bl := xk11_5) (by decide +kernel) (by decide +kernel) rfl rfl
def zt11_6 (h : Nat) : ZB := [(0, [zf_ald 0, zf_getR 11 19, zf_ild 1, zf_ild 2, zf_ild 3, zf_ild 4, zf_inv h 5 4 4, zf_reti], 13)]
theorem zT11_6 (h : Nat) : zTab h 11 6 5 (zt11_6 h) := zTab.mk (ret := (some .int)) (bl := xk11_6) (by decide +kernel) (by decide +kernel) rfl rfl
def zt11_7 (h : Nat) : ZB := [(0, [zf_ald 0, zf_getI 11 14, zf_if .ne 11, zf_ic (-1), zf_go 19], 11),
  (11, [zf_ald 0, zf_getR 11 12, zf_ild 1, zf_inv h 1 8 1], 19),
  (19, [zf_reti], 20)]
theorem zT11_7 (h : Nat) : zTab h 11 7 2 (zt11_7 h) := zTab.mk (ret := (some .int)) (bl := xk11_7) (by decide +kernel) (by decide +kernel) rfl rfl
def zt11_8 (h : Nat) : ZB := [(0, [zf_ald 0, zf_getR 11 9, zf_getI 0 0, zf_ic (-1), zf_ic2 .ne 18, zf_ald 0, zf_ic (-3), zf_inv h 11 22 1, zf_retz], 18),
  (18, [zf_ild 2, zf_inst h 11 25 1, zf_if .eq 44, zf_ild 3, zf_inst h 11 25 1, zf_if .eq 44, zf_ild 4, zf_inst h 11 25 1, zf_if .eq 44, zf_ic 1, zf_go 45], 44),
  (44, [zf_ic 0], 45),
  (45, [zf_ist 5, zf_ild 1, zf_if .lt 67, zf_ild 1, zf_ald 0, zf_getR 11 9, zf_getI 0 3, zf_ic2 .ge 67, zf_ild 5, zf_if .ne 74], 67),
  (67, [zf_ald 0, zf_ic (-2), zf_inv h 11 22 1, zf_retz], 74),
  (74, [zf_ald 0, zf_getR 11 9, zf_ild 1, zf_ild 2, zf_ild 3, zf_ild 4, zf_inv h 0 22 4, zf_ald 0, zf_ic 0, zf_inv h 11 22 1, zf_retz], 92)]
theorem zT11_8 (h : Nat) : zTab h 11 8 6 (zt11_8 h) := zTab.mk (ret := (some .boolean)) (bl := xk11_8) (by decide +kernel) (by decide +kernel) rfl rfl
def zt11_9 (h : Nat) : ZB := [(0, [zf_ald 0, zf_getR 11 9, zf_ild 1, zf_inv h 0 12 1, zf_if .eq 27, zf_ald 0, zf_getR 11 9, zf_getR 0 11, zf_ild 1, zf_ic 3, zf_inv h 7 1 2, zf_i2l, zf_go 30], 27),
  (27, [zf_lc (-1)], 30),
  (30, [zf_retl], 31)]
theorem zT11_9 (h : Nat) : zTab h 11 9 2 (zt11_9 h) := zTab.mk (ret := (some .long)) (bl := xk11_9) (by decide +kernel) (by decide +kernel) rfl rfl
def zt11_10 (h : Nat) : ZB := [(0, [zf_ald 0, zf_ald 0, zf_getR 11 18, zf_ild 1, zf_inv h 10 13 1, zf_inv h 11 22 1, zf_retz], 13)]
theorem zT11_10 (h : Nat) : zTab h 11 10 2 (zt11_10 h) := zTab.mk (ret := (some .boolean)) (bl := xk11_10) (by decide +kernel) (by decide +kernel) rfl rfl
def zt11_11 (h : Nat) : ZB := [(0, [zf_ald 0, zf_getR 11 9, zf_getI 0 0, zf_ic (-1), zf_ic2 .ne 18, zf_ald 0, zf_ic (-3), zf_inv h 11 1 1, zf_reti], 18),
  (18, [zf_ald 0, zf_getI 11 14, zf_ic 10, zf_ic2 .lt 33, zf_ald 0, zf_ic (-1), zf_inv h 11 1 1, zf_reti], 33),
  (33, [zf_ald 0, zf_getR 11 13, zf_ald 0, zf_getR 11 9, zf_ald 0, zf_getR 11 11, zf_inv h 1 37 2, zf_ald 0, zf_getR 11 13, zf_getI 1 2, zf_if .eq 64, zf_ald 0, zf_ic (-1), zf_inv h 11 1 1, zf_reti], 64),
  (64, [zf_ald 0, zf_dup, zf_getI 11 14, zf_ic 1, zf_add, zf_putI 11 14, zf_ald 0, zf_getR 11 12, zf_ast 1, zf_ald 0, zf_ald 0, zf_getR 11 13, zf_putR 11 12, zf_ald 0, zf_ald 1, zf_putR 11 13, zf_ald 0, zf_ald 0, zf_getR 11 12, zf_getR 1 1, zf_getI 7 2, zf_inv h 11 1 1, zf_reti], 107)]
theorem zT11_11 (h : Nat) : zTab h 11 11 2 (zt11_11 h) := zTab.mk (ret := (some .int)) (bl := xk11_11) (by decide +kernel) (by decide +kernel) rfl rfl
def zt11_12 (h : Nat) : ZB := [(0, [zf_ald 0, zf_getR 11 17, zf_ild 1, zf_inv h 4 3 1, zf_reti], 9)]
theorem zT11_12 (h : Nat) : zTab h 11 12 2 (zt11_12 h) := zTab.mk (ret := (some .int)) (bl := xk11_12) (by decide +kernel) (by decide +kernel) rfl rfl
def zt11_13 (h : Nat) : ZB := [(0, [zf_ald 0, zf_getI 11 14, zf_if .ne 11, zf_ic (-1), zf_go 20], 11),
  (11, [zf_ald 0, zf_getR 11 12, zf_ild 1, zf_ild 2, zf_inv h 1 11 2], 20),
  (20, [zf_reti], 21)]
theorem zT11_13 (h : Nat) : zTab h 11 13 3 (zt11_13 h) := zTab.mk (ret := (some .int)) (bl := xk11_13) (by decide +kernel) (by decide +kernel) rfl rfl
def zt11_14 (h : Nat) : ZB := [(0, [zf_ald 0, zf_ald 0, zf_getR 11 18, zf_ild 1, zf_inv h 10 5 1, zf_inv h 11 22 1, zf_retz], 13)]
theorem zT11_14 (h : Nat) : zTab h 11 14 2 (zt11_14 h) := zTab.mk (ret := (some .boolean)) (bl := xk11_14) (by decide +kernel) (by decide +kernel) rfl rfl
def zt11_15 (h : Nat) : ZB := [(0, [zf_ild 1, zf_if .lt 12, zf_ild 1, zf_ald 0, zf_getI 11 1, zf_ic2 .le 19], 12),
  (12, [zf_ald 0, zf_ic (-2), zf_inv h 11 22 1, zf_retz], 19),
  (19, [zf_ald 0, zf_ild 1, zf_putI 11 1, zf_ald 0, zf_ic 0, zf_inv h 11 22 1, zf_retz], 30)]
theorem zT11_15 (h : Nat) : zTab h 11 15 2 (zt11_15 h) := zTab.mk (ret := (some .boolean)) (bl := xk11_15) (by decide +kernel) (by decide +kernel) rfl rfl
def zt11_16 (h : Nat) : ZB := [(0, [zf_ald 0, zf_getR 11 17, zf_ild 1, zf_inv h 4 9 1, zf_reti], 9)]
theorem zT11_16 (h : Nat) : zTab h 11 16 2 (zt11_16 h) := zTab.mk (ret := (some .int)) (bl := xk11_16) (by decide +kernel) (by decide +kernel) rfl rfl
def zt11_17 (h : Nat) : ZB := [(0, [zf_ald 0, zf_getI 11 14, zf_if .le 21, zf_ald 0, zf_getR 11 12, zf_inv h 1 30 0, zf_if .eq 21, zf_ic 1, zf_go 22], 21),
  (21, [zf_ic 0], 22),
  (22, [zf_retz], 23)]
theorem zT11_17 (h : Nat) : zTab h 11 17 1 (zt11_17 h) := zTab.mk (ret := (some .boolean)) (bl := xk11_17) (by decide +kernel) (by decide +kernel) rfl rfl
def zt11_18 (h : Nat) : ZB := [(0, [zf_ald 0, zf_getR 11 9, zf_getI 0 0, zf_ic (-1), zf_ic2 .ne 18, zf_ald 0, zf_ic (-3), zf_inv h 11 22 1, zf_retz], 18),
  (18, [zf_ald 0, zf_getR 11 17, zf_ald 0, zf_getR 11 9, zf_ald 0, zf_getR 11 12, zf_inv h 4 28 2, zf_ald 0, zf_ic 0, zf_inv h 11 22 1, zf_retz], 39)]
theorem zT11_18 (h : Nat) : zTab h 11 18 1 (zt11_18 h) := zTab.mk (ret := (some .boolean)) (bl := xk11_18) (by decide +kernel) (by decide +kernel) rfl rfl
def zt11_19 (h : Nat) : ZB := [(0, [zf_ald 0, zf_ic 2, zf_putI 11 3, zf_ic (-2), zf_ild 1, zf_sub, zf_reti], 10)]
theorem zT11_19 (h : Nat) : zTab h 11 19 2 (zt11_19 h) := zTab.mk (ret := (some .int)) (bl := xk11_19) (by decide +kernel) (by decide +kernel) rfl rfl
def zt11_20 (h : Nat) : ZB := [(0, [zf_ald 0, zf_getI 11 1, zf_ic 20, zf_add, zf_ic 4000, zf_ic2 .le 19, zf_ald 0, zf_ic (-1), zf_inv h 11 22 1, zf_retz], 19),
  (19, [zf_ald 0, zf_ild 1, zf_inv h 11 21 1, zf_ald 0, zf_ild 2, zf_inv h 11 21 1, zf_ald 0, zf_ild 3, zf_inv h 11 21 1, zf_ald 0, zf_ild 4, zf_inv h 11 21 1, zf_ald 0, zf_ild 5, zf_inv h 11 21 1, zf_ald 0, zf_ic 0, zf_inv h 11 22 1, zf_retz], 52)]
theorem zT11_20 (h : Nat) : zTab h 11 20 6 (zt11_20 h) := zTab.mk (ret := (some .boolean)) (bl := xk11_20) (by decide +kernel) (by decide +kernel) rfl rfl
def zt11_21 (h : Nat) : ZB := [(0, [zf_ic 24, zf_ist 2], 3),
  (3, [zf_ild 2, zf_if .lt 46, zf_ald 0, zf_getI 11 1, zf_ic 4000, zf_ic2 .ge 46, zf_ald 0, zf_getR 11 0, zf_ald 0, zf_getI 11 1, zf_ild 1, zf_ild 2, zf_bit zushr, zf_cv zi2b, zf_astB, zf_ald 0, zf_dup, zf_getI 11 1, zf_ic 1, zf_add, zf_putI 11 1, zf_inc 2 (-8), zf_go 3], 46),
  (46, [zf_ret], 47)]
theorem zT11_21 (h : Nat) : zTab h 11 21 3 (zt11_21 h) := zTab.mk (ret := none) (bl := xk11_21) (by decide +kernel) (by decide +kernel) rfl rfl
def zt11_22 (h : Nat) : ZB := [(0, [zf_ald 0, zf_ild 1, zf_inv h 11 1 1, zf_ic (-1), zf_ic2 .eq 13, zf_ic 1, zf_go 14], 13),
  (13, [zf_ic 0], 14),
  (14, [zf_retz], 15)]
theorem zT11_22 (h : Nat) : zTab h 11 22 2 (zt11_22 h) := zTab.mk (ret := (some .boolean)) (bl := xk11_22) (by decide +kernel) (by decide +kernel) rfl rfl
def zt11_24 (h : Nat) : ZB := [(0, [zf_ild 0, zf_ic (-1), zf_ic2 .lt 14, zf_ild 0, zf_ic 3, zf_ic2 .gt 14, zf_ic 1, zf_go 15], 14),
  (14, [zf_ic 0], 15),
  (15, [zf_retz], 16)]
theorem zT11_24 (h : Nat) : zTab h 11 24 1 (zt11_24 h) := zTab.mk (ret := (some .boolean)) (bl := xk11_24) (by decide +kernel) (by decide +kernel) rfl rfl
def zt11_25 (h : Nat) : ZB := [(0, [zf_ild 0, zf_if .lt 14, zf_ild 0, zf_ic 50, zf_ic2 .gt 14, zf_ic 1, zf_go 15], 14),
  (14, [zf_ic 0], 15),
  (15, [zf_retz], 16)]
theorem zT11_25 (h : Nat) : zTab h 11 25 1 (zt11_25 h) := zTab.mk (ret := (some .boolean)) (bl := xk11_25) (by decide +kernel) (by decide +kernel) rfl rfl
def zt11_26 (h : Nat) : ZB := [(0, [zf_ald 0, zf_getR 11 4, zf_ild 1, zf_inv h 2 16 1, zf_reti], 9)]
theorem zT11_26 (h : Nat) : zTab h 11 26 2 (zt11_26 h) := zTab.mk (ret := (some .int)) (bl := xk11_26) (by decide +kernel) (by decide +kernel) rfl rfl
def zt11_27 (h : Nat) : ZB := [(0, [zf_ald 0, zf_ald 0, zf_getR 11 18, zf_ild 1, zf_ald 0, zf_getR 11 9, zf_inv h 10 14 2, zf_inv h 11 1 1, zf_reti], 17)]
theorem zT11_27 (h : Nat) : zTab h 11 27 2 (zt11_27 h) := zTab.mk (ret := (some .int)) (bl := xk11_27) (by decide +kernel) (by decide +kernel) rfl rfl
def zt11_28 (h : Nat) : ZB := [(0, [zf_ald 0, zf_getR 11 8, zf_ild 1, zf_inv h 3 30 1, zf_reti], 9)]
theorem zT11_28 (h : Nat) : zTab h 11 28 2 (zt11_28 h) := zTab.mk (ret := (some .int)) (bl := xk11_28) (by decide +kernel) (by decide +kernel) rfl rfl
def zt11_29 (h : Nat) : ZB := [(0, [zf_ald 0, zf_getR 11 8, zf_ild 1, zf_ild 2, zf_inv h 3 31 2, zf_reti], 10)]
theorem zT11_29 (h : Nat) : zTab h 11 29 3 (zt11_29 h) := zTab.mk (ret := (some .int)) (bl := xk11_29) (by decide +kernel) (by decide +kernel) rfl rfl
def zt11_30 (h : Nat) : ZB := [(0, [zf_ald 0, zf_getR 11 8, zf_getI 3 14, zf_reti], 8)]
theorem zT11_30 (h : Nat) : zTab h 11 30 1 (zt11_30 h) := zTab.mk (ret := (some .int)) (bl := xk11_30) (by decide +kernel) (by decide +kernel) rfl rfl
def zt11_31 (h : Nat) : ZB := [(0, [zf_ald 0, zf_getR 11 4, zf_ild 1, zf_ild 2, zf_inv h 2 18 2, zf_retl], 10)]
theorem zT11_31 (h : Nat) : zTab h 11 31 3 (zt11_31 h) := zTab.mk (ret := (some .long)) (bl := xk11_31) (by decide +kernel) (by decide +kernel) rfl rfl
def zt11_32 (h : Nat) : ZB := [(0, [zf_ild 1, zf_if .lt 15, zf_ild 1, zf_ald 0, zf_getR 11 17, zf_getI 4 8, zf_ic2 .lt 21], 15),
  (15, [zf_lc 1099511627776, zf_go 32], 21),
  (21, [zf_ald 0, zf_getR 11 17, zf_getR 4 7, zf_ild 1, zf_aldL, zf_l2i, zf_i2l], 32),
  (32, [zf_retl], 33)]
theorem zT11_32 (h : Nat) : zTab h 11 32 2 (zt11_32 h) := zTab.mk (ret := (some .long)) (bl := xk11_32) (by decide +kernel) (by decide +kernel) rfl rfl
def zt11_33 (h : Nat) : ZB := [(0, [zf_ald 0, zf_ic 400, zf_inv h 11 51 1, zf_ist 1, zf_ald 0, zf_getR 11 16, zf_ald 0, zf_getR 11 2, zf_ild 1, zf_inv h 8 3 2, zf_ist 2, zf_ild 2, zf_ic (-1), zf_ic2 .eq 32, zf_ald 0, zf_ild 2, zf_inv h 11 19 1, zf_reti], 32),
  (32, [zf_ald 0, zf_getR 11 15, zf_ast 3, zf_ald 0, zf_ald 0, zf_getR 11 16, zf_putR 11 15, zf_ald 0, zf_ald 3, zf_putR 11 16, zf_ald 0, zf_getR 11 17, zf_ald 0, zf_getR 11 15, zf_inv h 4 27 1, zf_ald 0, zf_ald 0, zf_getR 11 15, zf_getI 8 4, zf_inv h 11 1 1, zf_reti], 73)]
theorem zT11_33 (h : Nat) : zTab h 11 33 4 (zt11_33 h) := zTab.mk (ret := (some .int)) (bl := xk11_33) (by decide +kernel) (by decide +kernel) rfl rfl
def zt11_34 (h : Nat) : ZB := [(0, [zf_ald 0, zf_getR 11 19, zf_ild 1, zf_ild 2, zf_ild 3, zf_inv h 5 19 3, zf_reti], 11)]
theorem zT11_34 (h : Nat) : zTab h 11 34 4 (zt11_34 h) := zTab.mk (ret := (some .int)) (bl := xk11_34) (by decide +kernel) (by decide +kernel) rfl rfl
def zt11_35 (h : Nat) : ZB := [(0, [zf_ald 0, zf_ald 0, zf_getR 11 9, zf_ild 1, zf_ild 2, zf_ild 3, zf_ild 4, zf_ild 5, zf_inv h 0 0 5, zf_inv h 11 1 1, zf_reti], 19)]
theorem zT11_35 (h : Nat) : zTab h 11 35 6 (zt11_35 h) := zTab.mk (ret := (some .int)) (bl := xk11_35) (by decide +kernel) (by decide +kernel) rfl rfl
def zt11_36 (h : Nat) : ZB := [(0, [zf_ald 0, zf_getI 11 14, zf_if .ne 14, zf_ald 0, zf_ic (-3), zf_inv h 11 1 1, zf_reti], 14),
  (14, [zf_ald 0, zf_getR 11 12, zf_inv h 1 30 0, zf_if .eq 38, zf_ald 0, zf_getR 11 17, zf_inv h 4 2 0, zf_if .eq 38, zf_ic 1, zf_go 39], 38),
  (38, [zf_ic 0], 39),
  (39, [zf_ist 1, zf_ald 0, zf_ald 0, zf_getR 11 19, zf_ald 0, zf_getR 11 12, zf_ild 1, zf_inv h 5 0 2, zf_inv h 11 1 1, zf_reti], 57)]
theorem zT11_36 (h : Nat) : zTab h 11 36 2 (zt11_36 h) := zTab.mk (ret := (some .int)) (bl := xk11_36) (by decide +kernel) (by decide +kernel) rfl rfl
def zt11_37 (h : Nat) : ZB := [(0, [zf_ald 0, zf_getR 11 8, zf_ild 1, zf_inv h 3 34 1, zf_reti], 9)]
theorem zT11_37 (h : Nat) : zTab h 11 37 2 (zt11_37 h) := zTab.mk (ret := (some .int)) (bl := xk11_37) (by decide +kernel) (by decide +kernel) rfl rfl
def zt11_38 (h : Nat) : ZB := [(0, [zf_ald 0, zf_ald 0, zf_getR 11 18, zf_inv h 10 18 0, zf_inv h 11 1 1, zf_reti], 12)]
theorem zT11_38 (h : Nat) : zTab h 11 38 1 (zt11_38 h) := zTab.mk (ret := (some .int)) (bl := xk11_38) (by decide +kernel) (by decide +kernel) rfl rfl
def zt11_39 (h : Nat) : ZB := [(0, [zf_ald 0, zf_getI 11 14, zf_if .ne 11, zf_ic (-1), zf_go 19], 11),
  (11, [zf_ald 0, zf_getR 11 12, zf_ild 1, zf_inv h 1 47 1], 19),
  (19, [zf_reti], 20)]
theorem zT11_39 (h : Nat) : zTab h 11 39 2 (zt11_39 h) := zTab.mk (ret := (some .int)) (bl := xk11_39) (by decide +kernel) (by decide +kernel) rfl rfl
def zt11_40 (h : Nat) : ZB := [(0, [zf_ald 0, zf_getR 11 19, zf_ild 1, zf_ild 2, zf_inv h 5 22 2, zf_reti], 10)]
theorem zT11_40 (h : Nat) : zTab h 11 40 3 (zt11_40 h) := zTab.mk (ret := (some .int)) (bl := xk11_40) (by decide +kernel) (by decide +kernel) rfl rfl
def zt11_41 (h : Nat) : ZB := [(0, [zf_ald 0, zf_getR 11 9, zf_getI 0 0, zf_ic (-1), zf_ic2 .ne 18, zf_ald 0, zf_ic (-3), zf_inv h 11 1 1, zf_reti], 18),
  (18, [zf_ild 1, zf_ic 1, zf_ic2 .lt 29, zf_ild 1, zf_ic 20, zf_ic2 .le 36], 29),
  (29, [zf_ald 0, zf_ic (-2), zf_inv h 11 1 1, zf_reti], 36),
  (36, [zf_ic 0, zf_ist 2], 38),
  (38, [zf_ild 2, zf_ild 1, zf_ic2 .ge 66, zf_ald 0, zf_getR 11 9, zf_inv h 0 17 0, zf_if .le 66, zf_ald 0, zf_getR 11 10, zf_inv h 6 4 0, zf_inc 2 1, zf_go 38], 66),
  (66, [zf_ald 0, zf_ald 0, zf_getR 11 9, zf_inv h 0 17 0, zf_inv h 11 1 1, zf_reti], 78)]
theorem zT11_41 (h : Nat) : zTab h 11 41 3 (zt11_41 h) := zTab.mk (ret := (some .int)) (bl := xk11_41) (by decide +kernel) (by decide +kernel) rfl rfl
def zt11_42 (h : Nat) : ZB := [(0, [zf_ild 1, zf_ic 4, zf_ic2 .ne 9, zf_ic 0, zf_go 11], 9),
  (9, [zf_ic 100000], 11),
  (11, [zf_ist 5, zf_ild 1, zf_if .lt 40, zf_ild 1, zf_ic 4, zf_ic2 .gt 40, zf_ild 2, zf_inst h 11 24 1, zf_if .eq 40, zf_ild 3, zf_inst h 11 24 1, zf_if .eq 40, zf_ic 1, zf_go 41], 40),
  (40, [zf_ic 0], 41),
  (41, [zf_ist 6, zf_ild 6, zf_if .eq 60, zf_ild 4, zf_if .lt 60, zf_ild 4, zf_ild 5, zf_ic2 .le 67], 60),
  (60, [zf_ald 0, zf_ic (-2), zf_inv h 11 1 1, zf_reti], 67),
  (67, [zf_ald 0, zf_getR 11 11, zf_inv h 7 2 0, zf_if .ne 83, zf_ald 0, zf_ic (-1), zf_inv h 11 1 1, zf_reti], 83),
  (83, [zf_ald 0, zf_ald 0, zf_getR 11 11, zf_ild 1, zf_ild 2, zf_ild 3, zf_ild 4, zf_ic 0, zf_inv h 7 0 5, zf_inv h 11 1 1, zf_reti], 101)]
theorem zT11_42 (h : Nat) : zTab h 11 42 7 (zt11_42 h) := zTab.mk (ret := (some .int)) (bl := xk11_42) (by decide +kernel) (by decide +kernel) rfl rfl
def zt11_43 (h : Nat) : ZB := [(0, [zf_ild 1, zf_ic 1, zf_ic2 .lt 12, zf_ild 1, zf_ic 300, zf_ic2 .le 19], 12),
  (12, [zf_ald 0, zf_ic (-2), zf_inv h 11 1 1, zf_reti], 19),
  (19, [zf_ald 0, zf_ald 0, zf_getR 11 17, zf_ild 1, zf_inv h 4 13 1, zf_inv h 11 1 1, zf_reti], 32)]
theorem zT11_43 (h : Nat) : zTab h 11 43 2 (zt11_43 h) := zTab.mk (ret := (some .int)) (bl := xk11_43) (by decide +kernel) (by decide +kernel) rfl rfl
def zt11_44 (h : Nat) : ZB := [(0, [zf_ald 0, zf_ald 0, zf_getR 11 18, zf_ald 0, zf_getR 11 9, zf_inv h 10 12 1, zf_inv h 11 1 1, zf_reti], 16)]
theorem zT11_44 (h : Nat) : zTab h 11 44 1 (zt11_44 h) := zTab.mk (ret := (some .int)) (bl := xk11_44) (by decide +kernel) (by decide +kernel) rfl rfl
def zt11_45 (h : Nat) : ZB := [(0, [zf_ald 0, zf_getR 11 18, zf_ild 1, zf_ild 2, zf_inv h 10 3 2, zf_reti], 10)]
theorem zT11_45 (h : Nat) : zTab h 11 45 3 (zt11_45 h) := zTab.mk (ret := (some .int)) (bl := xk11_45) (by decide +kernel) (by decide +kernel) rfl rfl
def zt11_46 (h : Nat) : ZB := [(0, [zf_ald 0, zf_ald 0, zf_getR 11 19, zf_ild 1, zf_inv h 5 18 1, zf_inv h 11 1 1, zf_reti], 13)]
theorem zT11_46 (h : Nat) : zTab h 11 46 2 (zt11_46 h) := zTab.mk (ret := (some .int)) (bl := xk11_46) (by decide +kernel) (by decide +kernel) rfl rfl
def zt11_47 (h : Nat) : ZB := [(0, [zf_ild 1, zf_if .eq 16, zf_ild 1, zf_ic 1, zf_ic2 .eq 16, zf_ald 0, zf_ic (-2), zf_inv h 11 1 1, zf_reti], 16),
  (16, [zf_ald 0, zf_getI 11 7, zf_ic 24, zf_ic2 .ge 36, zf_ald 0, zf_getR 11 8, zf_getI 3 15, zf_ic 4, zf_ic2 .lt 42], 36),
  (36, [zf_ald 0, zf_ic (-1), zf_inv h 11 1 1, zf_reti], 42),
  (42, [zf_ald 0, zf_dup, zf_getI 11 7, zf_ic 1, zf_add, zf_putI 11 7, zf_ald 0, zf_ic 4000, zf_inv h 11 51 1, zf_ist 2, zf_ald 0, zf_getR 11 6, zf_ald 0, zf_getR 11 2, zf_ild 2, zf_ild 1, zf_ald 0, zf_getR 11 5, zf_inv h 9 3 4, zf_ist 3, zf_ild 3, zf_ic (-1), zf_ic2 .eq 89, zf_ald 0, zf_ild 3, zf_inv h 11 19 1, zf_reti], 89),
  (89, [zf_ald 0, zf_getR 11 4, zf_ast 4, zf_ald 0, zf_ald 0, zf_getR 11 5, zf_putR 11 4, zf_ald 0, zf_ald 4, zf_putR 11 5, zf_ald 0, zf_getR 11 4, zf_inv h 2 31 0, zf_ald 0, zf_getR 11 8, zf_ald 0, zf_getR 11 4, zf_inv h 3 6 1, zf_ald 0, zf_ald 0, zf_getR 11 4, zf_getI 2 0, zf_inv h 11 1 1, zf_reti], 139)]
theorem zT11_47 (h : Nat) : zTab h 11 47 5 (zt11_47 h) := zTab.mk (ret := (some .int)) (bl := xk11_47) (by decide +kernel) (by decide +kernel) rfl rfl
def zt11_48 (h : Nat) : ZB := [(0, [zf_ald 0, zf_getI 11 14, zf_if .ne 11, zf_ic (-1), zf_go 18], 11),
  (11, [zf_ald 0, zf_getR 11 12, zf_getI 1 9], 18),
  (18, [zf_reti], 19)]
theorem zT11_48 (h : Nat) : zTab h 11 48 1 (zt11_48 h) := zTab.mk (ret := (some .int)) (bl := xk11_48) (by decide +kernel) (by decide +kernel) rfl rfl
def zt11_49 (h : Nat) : ZB := [(0, [zf_ild 1, zf_ic 2, zf_div, zf_ist 2], 4),
  (4, [zf_ild 2, zf_if .le 78, zf_ild 2, zf_ist 3], 10),
  (10, [zf_ild 3, zf_ild 1, zf_ic2 .ge 71, zf_ald 0, zf_ild 3, zf_aldI 100, zf_ist 4, zf_ild 3, zf_ist 5], 23),
  (23, [zf_ild 5, zf_ild 2, zf_ic2 .lt 59, zf_ald 0, zf_ild 5, zf_ild 2, zf_sub, zf_aldI 100, zf_ild 4, zf_ic2 .le 59, zf_ald 0, zf_ild 5, zf_ald 0, zf_ild 5, zf_ild 2, zf_sub, zf_aldI 100, zf_astI, zf_ild 5, zf_ild 2, zf_sub, zf_ist 5, zf_go 23], 59),
  (59, [zf_ald 0, zf_ild 5, zf_ild 4, zf_astI, zf_inc 3 1, zf_go 10], 71),
  (71, [zf_ild 2, zf_ic 2, zf_div, zf_ist 2, zf_go 4], 78),
  (78, [zf_ret], 79)]
theorem zT11_49 (h : Nat) : zTab h 11 49 6 (zt11_49 h) := zTab.mk (ret := none) (bl := xk11_49) (by decide +kernel) (by decide +kernel) rfl rfl
def zt11_50 (h : Nat) : ZB := [(0, [zf_ald 0, zf_ald 0, zf_getR 11 18, zf_inv h 10 21 0, zf_inv h 11 1 1, zf_reti], 12)]
theorem zT11_50 (h : Nat) : zTab h 11 50 1 (zt11_50 h) := zTab.mk (ret := (some .int)) (bl := xk11_50) (by decide +kernel) (by decide +kernel) rfl rfl
def zt11_51 (h : Nat) : ZB := [(0, [zf_ic 0, zf_ist 2, zf_ic 0, zf_ist 3], 4),
  (4, [zf_ild 3, zf_ald 0, zf_getI 11 1, zf_ic2 .ge 64, zf_ild 2, zf_ild 1, zf_ic2 .ge 64, zf_ald 0, zf_getR 11 0, zf_ild 3, zf_aldB, zf_ist 4, zf_ild 4, zf_ic 10, zf_ic2 .eq 46, zf_ild 4, zf_ic 32, zf_ic2 .lt 58, zf_ild 4, zf_ic 126, zf_ic2 .gt 58], 46),
  (46, [zf_ald 0, zf_getR 11 2, zf_ild 2, zf_ild 4, zf_cv zi2c, zf_astC, zf_inc 2 1], 58),
  (58, [zf_inc 3 1, zf_go 4], 64),
  (64, [zf_ald 0, zf_ic 0, zf_putI 11 1, zf_ild 2, zf_reti], 71)]
theorem zT11_51 (h : Nat) : zTab h 11 51 5 (zt11_51 h) := zTab.mk (ret := (some .int)) (bl := xk11_51) (by decide +kernel) (by decide +kernel) rfl rfl
def zt11_52 (h : Nat) : ZB := [(0, [zf_ald 0, zf_getI 11 3, zf_reti], 5)]
theorem zT11_52 (h : Nat) : zTab h 11 52 1 (zt11_52 h) := zTab.mk (ret := (some .int)) (bl := xk11_52) (by decide +kernel) (by decide +kernel) rfl rfl
def zt11_53 (h : Nat) : ZB := [(0, [zf_ald 0, zf_getI 11 14, zf_if .ne 11, zf_ic (-1), zf_go 20], 11),
  (11, [zf_ald 0, zf_getR 11 12, zf_ild 1, zf_ild 2, zf_inv h 1 16 2], 20),
  (20, [zf_reti], 21)]
theorem zT11_53 (h : Nat) : zTab h 11 53 3 (zt11_53 h) := zTab.mk (ret := (some .int)) (bl := xk11_53) (by decide +kernel) (by decide +kernel) rfl rfl
def zt11_54 (h : Nat) : ZB := [(0, [zf_ald 0, zf_getI 11 14, zf_if .ne 11, zf_ic (-1), zf_go 18], 11),
  (11, [zf_ald 0, zf_getR 11 12, zf_getI 1 11], 18),
  (18, [zf_reti], 19)]
theorem zT11_54 (h : Nat) : zTab h 11 54 1 (zt11_54 h) := zTab.mk (ret := (some .int)) (bl := xk11_54) (by decide +kernel) (by decide +kernel) rfl rfl
def zt11_55 (h : Nat) : ZB := [(0, [zf_ald 0, zf_getR 11 9, zf_ild 1, zf_ild 2, zf_ild 3, zf_inv h 0 28 3, zf_reti], 11)]
theorem zT11_55 (h : Nat) : zTab h 11 55 4 (zt11_55 h) := zTab.mk (ret := (some .int)) (bl := xk11_55) (by decide +kernel) (by decide +kernel) rfl rfl
def zt11_56 (h : Nat) : ZB := [(0, [zf_ald 0, zf_ald 0, zf_getR 11 19, zf_ild 1, zf_inv h 5 24 1, zf_inv h 11 22 1, zf_retz], 13)]
theorem zT11_56 (h : Nat) : zTab h 11 56 2 (zt11_56 h) := zTab.mk (ret := (some .boolean)) (bl := xk11_56) (by decide +kernel) (by decide +kernel) rfl rfl
def zt11_57 (h : Nat) : ZB := [(0, [zf_ic 1, zf_ild 0, zf_ild 1, zf_min, zf_max, zf_reti], 10)]
theorem zT11_57 (h : Nat) : zTab h 11 57 2 (zt11_57 h) := zTab.mk (ret := (some .int)) (bl := xk11_57) (by decide +kernel) (by decide +kernel) rfl rfl
def zt11_58 (h : Nat) : ZB := [(0, [zf_ald 0, zf_getR 11 4, zf_ild 1, zf_inv h 2 19 1, zf_reti], 9)]
theorem zT11_58 (h : Nat) : zTab h 11 58 2 (zt11_58 h) := zTab.mk (ret := (some .int)) (bl := xk11_58) (by decide +kernel) (by decide +kernel) rfl rfl
