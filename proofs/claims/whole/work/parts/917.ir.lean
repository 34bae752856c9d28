
/-! THE START: what the constructors left -/
def xz1 (M : XM) (l : List (Nat × Nat × Int)) : Bool := l.all fun e => decide ((M.1 e.1 e.2.1).toInt = e.2.2)
def xzr (M : XM) (l : List (Nat × Nat)) : Bool := l.all fun e => (List.range e.2).all fun j => decide ((M.1 e.1 j).toInt = 0)
def xzl (M : XM) (l : List (Nat × Nat)) : Bool := l.all fun e => (List.range e.2).all fun j => decide ((M.2.1 e.1 j).toInt = 0)
def xzs (M : XM) : Bool := [1, 2, 3, 4, 5].all fun c => (List.range 64).all fun j => decide ((M.1 c j).toInt = (xmh.1 c j).toInt) && decide ((M.2.1 c j).toInt = (xmh.2.1 c j).toInt)
def xzk (M : XM) : Bool := (List.range 64).all fun j => decide ((M.1 281 j).toInt = (xmh.1 5 j).toInt)
theorem xz1_g {M : XM} {l : List (Nat × Nat × Int)} (h : xz1 M l = true) {c j : Nat} {v : Int} (e : (c, j, v) ∈ l) : (M.1 c j).toInt = v := of_decide_eq_true (List.all_eq_true.mp h _ e)
theorem xzr_g {M : XM} {l : List (Nat × Nat)} (h : xzr M l = true) {c n : Nat} (e : (c, n) ∈ l) {j : Nat} (hj : j < n) : (M.1 c j).toInt = 0 := of_decide_eq_true (List.all_eq_true.mp (List.all_eq_true.mp h _ e) j (List.mem_range.mpr hj))
theorem xzl_g {M : XM} {l : List (Nat × Nat)} (h : xzl M l = true) {c n : Nat} (e : (c, n) ∈ l) {j : Nat} (hj : j < n) : (M.2.1 c j).toInt = 0 := of_decide_eq_true (List.all_eq_true.mp (List.all_eq_true.mp h _ e) j (List.mem_range.mpr hj))
theorem xzs_g {M : XM} (h : xzs M = true) {c : Nat} (hc : c ∈ [1, 2, 3, 4, 5]) {j : Nat} (hj : j < 64) : (M.1 c j).toInt = (xmh.1 c j).toInt ∧ (M.2.1 c j).toInt = (xmh.2.1 c j).toInt := by
  have z := List.all_eq_true.mp (List.all_eq_true.mp h _ hc) j (List.mem_range.mpr hj)
  rw [Bool.and_eq_true] at z
  exact ⟨of_decide_eq_true z.1, of_decide_eq_true z.2⟩
theorem xzk_g {M : XM} (h : xzk M = true) {j : Nat} (hj : j < 64) : (M.1 281 j).toInt = (xmh.1 5 j).toInt := of_decide_eq_true (List.all_eq_true.mp h j (List.mem_range.mpr hj))
def xzI : List (Nat × Nat × Int) := [(40, 1, 0), (40, 3, 0), (40, 7, 0), (40, 14, 0), (43, 0, 0), (43, 12, 0), (63, 13, 0), (63, 14, 0), (63, 15, 0), (65, 1, 16), (65, 2, 0), (68, 1, 100), (68, 2, 0), (70, 1, 50), (70, 2, 0), (72, 1, 60), (72, 2, 0), (74, 1, 30), (74, 2, 0), (76, 1, 60), (76, 2, 0), (82, 0, -1), (88, 1, 40), (90, 1, 12), (90, 2, 0), (104, 1, 30), (104, 2, 0), (106, 0, -1), (107, 1, 60), (111, 1, 40), (119, 1, 60), (123, 1, 40), (130, 1, 0), (138, 3, 0), (138, 6, 0), (138, 8, 0), (138, 10, 0), (138, 13, 0), (138, 14, -1), (138, 15, 0), (145, 1, 0), (145, 5, 0), (145, 9, 0), (145, 10, 0), (145, 11, 0), (150, 0, 0), (151, 0, 0), (152, 0, 0), (154, 0, 0), (154, 6, 0), (165, 0, 0), (165, 2, 0), (165, 4, -1), (165, 5, 0), (165, 6, 0), (165, 14, 0), (165, 24, 0), (165, 29, 0), (165, 44, 0), (165, 49, 0), (168, 1, 0), (181, 1, 1), (234, 1, 0), (234, 3, 0), (234, 28, 0), (234, 30, 0), (234, 32, -1), (234, 36, 0), (234, 38, 0), (234, 46, 0), (234, 47, -1), (234, 48, 0), (238, 0, 20), (268, 2, 0), (268, 5, 0), (280, 2, 0), (280, 8, 0), (280, 21, 0), (280, 22, 0), (280, 24, 0), (287, 10, 0)]
def xzR : List (Nat × Nat) := [(146, 400), (215, 20), (270, 400), (295, 160), (296, 10)]
def xzL : List (Nat × Nat) := [(139, 26), (140, 72), (142, 20), (251, 72), (252, 20), (253, 26)]
theorem xzA_k : (xz1 xmB xzI && xzr xmB xzR && xzl xmB xzL && xzs xmB && xzk xmB) = true := by decide +kernel
