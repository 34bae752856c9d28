/-! TABLES of what methods of class 7 ask -/
def zt7_0 (h : Nat) : ZB := [(0, [zf_ald 0, zf_getI 7 2, zf_ald 0, zf_getI 7 1, zf_ic2 .lt 13, zf_ic (-1), zf_reti], 13),
  (13, [zf_ald 0, zf_getI 7 2, zf_ic 6, zf_mul, zf_ist 6, zf_ald 0, zf_getR 7 0, zf_ild 6, zf_ild 1, zf_astI, zf_ald 0, zf_getR 7 0, zf_ild 6, zf_ic 1, zf_add, zf_ild 2, zf_astI, zf_ald 0, zf_getR 7 0, zf_ild 6, zf_ic 2, zf_add, zf_ild 3, zf_astI, zf_ald 0, zf_getR 7 0, zf_ild 6, zf_ic 3, zf_add, zf_ild 4, zf_astI, zf_ald 0, zf_getR 7 0, zf_ild 6, zf_ic 4, zf_add, zf_ild 5, zf_astI, zf_ald 0, zf_getR 7 0, zf_ild 6, zf_ic 5, zf_add, zf_ic 0, zf_astI, zf_ald 0, zf_dup, zf_getI 7 2, zf_ic 1, zf_add, zf_putI 7 2, zf_ald 0, zf_getI 7 2, zf_ic 1, zf_sub, zf_reti], 99)]
theorem zT7_0 (h : Nat) : zTab h 7 0 7 (zt7_0 h) := zTab.mk (ret := (some .int)) (bl := xk7_0) (by decide +kernel) (by decide +kernel) rfl rfl
def zt7_1 (h : Nat) : ZB := [(0, [zf_ild 1, zf_if .lt 26, zf_ild 1, zf_ald 0, zf_getI 7 2, zf_ic2 .ge 26, zf_ild 2, zf_if .lt 26, zf_ild 2, zf_ic 6, zf_ic2 .ge 26, zf_ic 1, zf_go 27], 26),
  (26, [zf_ic 0], 27),
  (27, [zf_ist 3, zf_ild 3, zf_if .eq 46, zf_ald 0, zf_getR 7 0, zf_ild 1, zf_ic 6, zf_mul, zf_ild 2, zf_add, zf_aldI 100, zf_go 47], 46),
  (46, [zf_ic (-1)], 47),
  (47, [zf_reti], 48)]
theorem zT7_1 (h : Nat) : zTab h 7 1 4 (zt7_1 h) := zTab.mk (ret := (some .int)) (bl := xk7_1) (by decide +kernel) (by decide +kernel) rfl rfl
def zt7_2 (h : Nat) : ZB := [(0, [zf_ald 0, zf_getI 7 2, zf_ald 0, zf_getI 7 1, zf_ic2 .ge 15, zf_ic 1, zf_go 16], 15),
  (15, [zf_ic 0], 16),
  (16, [zf_retz], 17)]
theorem zT7_2 (h : Nat) : zTab h 7 2 1 (zt7_2 h) := zTab.mk (ret := (some .boolean)) (bl := xk7_2) (by decide +kernel) (by decide +kernel) rfl rfl
def zt7_4 (h : Nat) : ZB := [(0, [zf_ild 1, zf_if .lt 34, zf_ild 1, zf_ald 0, zf_getI 7 2, zf_ic2 .ge 34, zf_ild 2, zf_if .lt 34, zf_ild 2, zf_ic 6, zf_ic2 .ge 34, zf_ald 0, zf_getR 7 0, zf_ild 1, zf_ic 6, zf_mul, zf_ild 2, zf_add, zf_ild 3, zf_astI], 34),
  (34, [zf_ret], 35)]
theorem zT7_4 (h : Nat) : zTab h 7 4 4 (zt7_4 h) := zTab.mk (ret := none) (bl := xk7_4) (by decide +kernel) (by decide +kernel) rfl rfl
