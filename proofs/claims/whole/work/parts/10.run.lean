/-! what is checked of a method's row; how a method runs -/
theorem u_good {C : String} {T : u_T} {N : Nat} : ∀ w ∈ u_ws C T N, goodWord w = true := by
  intro w hw
  obtain ⟨k, -, rfl⟩ := List.mem_map.mp hw
  unfold u_lay
  split <;> rfl
theorem xcok2 : xcok 2 := ⟨RX2, rfl, rfl, fun w h => xW_of (xsub_in _ _ xLY_ok w (List.mem_append_left _ h)) (u_good w h), tyX2_ok, nmX2, by decide +kernel, by decide +kernel⟩
theorem xcok9 : xcok 9 := ⟨RX9, rfl, rfl, fun w h => xW_of (xsub_in _ _ xLY_ok w (List.mem_append_right _ (List.mem_append_left _ h))) (u_good w h), tyX9_ok, nmX9, by decide +kernel, by decide +kernel⟩
theorem xcok7 : xcok 7 := ⟨RX7, rfl, rfl, fun w h => xW_of (xsub_in _ _ xLY_ok w (List.mem_append_right _ (List.mem_append_right _ (List.mem_append_left _ h)))) (u_good w h), tyX7_ok, nmX7, by decide +kernel, by decide +kernel⟩
theorem xcok3 : xcok 3 := ⟨RX3, rfl, rfl, fun w h => xW_of (xsub_in _ _ xLY_ok w (List.mem_append_right _ (List.mem_append_right _ (List.mem_append_right _ (List.mem_append_left _ h))))) (u_good w h), tyX3_ok, nmX3, by decide +kernel, by decide +kernel⟩
theorem xcok0 : xcok 0 := ⟨RX0, rfl, rfl, fun w h => xW_of (xsub_in _ _ xLY_ok w (List.mem_append_right _ (List.mem_append_right _ (List.mem_append_right _ (List.mem_append_right _ (List.mem_append_left _ h)))))) (u_good w h), tyX0_ok, nmX0, by decide +kernel, by decide +kernel⟩
theorem xcok6 : xcok 6 := ⟨RX6, rfl, rfl, fun w h => xW_of (xsub_in _ _ xLY_ok w (List.mem_append_right _ (List.mem_append_right _ (List.mem_append_right _ (List.mem_append_right _ (List.mem_append_right _ (List.mem_append_left _ h))))))) (u_good w h), tyX6_ok, nmX6, by decide +kernel, by decide +kernel⟩
theorem xcok1 : xcok 1 := ⟨RX1, rfl, rfl, fun w h => xW_of (xsub_in _ _ xLY_ok w (List.mem_append_right _ (List.mem_append_right _ (List.mem_append_right _ (List.mem_append_right _ (List.mem_append_right _ (List.mem_append_right _ (List.mem_append_left _ h)))))))) (u_good w h), tyX1_ok, nmX1, by decide +kernel, by decide +kernel⟩
theorem xcok8 : xcok 8 := ⟨RX8, rfl, rfl, fun w h => xW_of (xsub_in _ _ xLY_ok w (List.mem_append_right _ (List.mem_append_right _ (List.mem_append_right _ (List.mem_append_right _ (List.mem_append_right _ (List.mem_append_right _ (List.mem_append_right _ (List.mem_append_left _ h))))))))) (u_good w h), tyX8_ok, nmX8, by decide +kernel, by decide +kernel⟩
theorem xcok4 : xcok 4 := ⟨RX4, rfl, rfl, fun w h => xW_of (xsub_in _ _ xLY_ok w (List.mem_append_right _ (List.mem_append_right _ (List.mem_append_right _ (List.mem_append_right _ (List.mem_append_right _ (List.mem_append_right _ (List.mem_append_right _ (List.mem_append_right _ (List.mem_append_left _ h)))))))))) (u_good w h), tyX4_ok, nmX4, by decide +kernel, by decide +kernel⟩
theorem xcok10 : xcok 10 := ⟨RX10, rfl, rfl, fun w h => xW_of (xsub_in _ _ xLY_ok w (List.mem_append_right _ (List.mem_append_right _ (List.mem_append_right _ (List.mem_append_right _ (List.mem_append_right _ (List.mem_append_right _ (List.mem_append_right _ (List.mem_append_right _ (List.mem_append_right _ (List.mem_append_left _ h))))))))))) (u_good w h), tyX10_ok, nmX10, by decide +kernel, by decide +kernel⟩
theorem xcok5 : xcok 5 := ⟨RX5, rfl, rfl, fun w h => xW_of (xsub_in _ _ xLY_ok w (List.mem_append_right _ (List.mem_append_right _ (List.mem_append_right _ (List.mem_append_right _ (List.mem_append_right _ (List.mem_append_right _ (List.mem_append_right _ (List.mem_append_right _ (List.mem_append_right _ (List.mem_append_right _ (List.mem_append_left _ h)))))))))))) (u_good w h), tyX5_ok, nmX5, by decide +kernel, by decide +kernel⟩
theorem xcok11 : xcok 11 := ⟨RX11, rfl, rfl, fun w h => xW_of (xsub_in _ _ xLY_ok w (List.mem_append_right _ (List.mem_append_right _ (List.mem_append_right _ (List.mem_append_right _ (List.mem_append_right _ (List.mem_append_right _ (List.mem_append_right _ (List.mem_append_right _ (List.mem_append_right _ (List.mem_append_right _ (List.mem_append_right _ (List.mem_append_left _ h))))))))))))) (u_good w h), tyX11_ok, nmX11, by decide +kernel, by decide +kernel⟩
theorem xcok20 : xcok 20 := ⟨RX20, rfl, rfl, fun w h => xW_of (xsub_in _ _ xLY_ok w (List.mem_append_right _ (List.mem_append_right _ (List.mem_append_right _ (List.mem_append_right _ (List.mem_append_right _ (List.mem_append_right _ (List.mem_append_right _ (List.mem_append_right _ (List.mem_append_right _ (List.mem_append_right _ (List.mem_append_right _ (List.mem_append_right _ (List.mem_append_left _ h)))))))))))))) (u_good w h), tyX20_ok, nmX20, by decide +kernel, by decide +kernel⟩
theorem xcok16 : xcok 16 := ⟨RX16, rfl, rfl, fun w h => xW_of (xsub_in _ _ xLY_ok w (List.mem_append_right _ (List.mem_append_right _ (List.mem_append_right _ (List.mem_append_right _ (List.mem_append_right _ (List.mem_append_right _ (List.mem_append_right _ (List.mem_append_right _ (List.mem_append_right _ (List.mem_append_right _ (List.mem_append_right _ (List.mem_append_right _ (List.mem_append_right _ (List.mem_append_left _ h))))))))))))))) (u_good w h), tyX16_ok, nmX16, by decide +kernel, by decide +kernel⟩
theorem xcok12 : xcok 12 := ⟨RX12, rfl, rfl, fun w h => xW_of (xsub_in _ _ xLY_ok w (List.mem_append_right _ (List.mem_append_right _ (List.mem_append_right _ (List.mem_append_right _ (List.mem_append_right _ (List.mem_append_right _ (List.mem_append_right _ (List.mem_append_right _ (List.mem_append_right _ (List.mem_append_right _ (List.mem_append_right _ (List.mem_append_right _ (List.mem_append_right _ (List.mem_append_right _ (List.mem_append_left _ h)))))))))))))))) (u_good w h), tyX12_ok, nmX12, by decide +kernel, by decide +kernel⟩
theorem xcok13 : xcok 13 := ⟨RX13, rfl, rfl, fun w h => xW_of (xsub_in _ _ xLY_ok w (List.mem_append_right _ (List.mem_append_right _ (List.mem_append_right _ (List.mem_append_right _ (List.mem_append_right _ (List.mem_append_right _ (List.mem_append_right _ (List.mem_append_right _ (List.mem_append_right _ (List.mem_append_right _ (List.mem_append_right _ (List.mem_append_right _ (List.mem_append_right _ (List.mem_append_right _ (List.mem_append_right _ (List.mem_append_left _ h))))))))))))))))) (u_good w h), tyX13_ok, nmX13, by decide +kernel, by decide +kernel⟩
theorem xcok19 : xcok 19 := ⟨RX19, rfl, rfl, fun w h => xW_of (xsub_in _ _ xLY_ok w (List.mem_append_right _ (List.mem_append_right _ (List.mem_append_right _ (List.mem_append_right _ (List.mem_append_right _ (List.mem_append_right _ (List.mem_append_right _ (List.mem_append_right _ (List.mem_append_right _ (List.mem_append_right _ (List.mem_append_right _ (List.mem_append_right _ (List.mem_append_right _ (List.mem_append_right _ (List.mem_append_right _ (List.mem_append_right _ (List.mem_append_left _ h)))))))))))))))))) (u_good w h), tyX19_ok, nmX19, by decide +kernel, by decide +kernel⟩
theorem xcok21 : xcok 21 := ⟨RX21, rfl, rfl, fun w h => xW_of (xsub_in _ _ xLY_ok w (List.mem_append_right _ (List.mem_append_right _ (List.mem_append_right _ (List.mem_append_right _ (List.mem_append_right _ (List.mem_append_right _ (List.mem_append_right _ (List.mem_append_right _ (List.mem_append_right _ (List.mem_append_right _ (List.mem_append_right _ (List.mem_append_right _ (List.mem_append_right _ (List.mem_append_right _ (List.mem_append_right _ (List.mem_append_right _ (List.mem_append_right _ (List.mem_append_left _ h))))))))))))))))))) (u_good w h), tyX21_ok, nmX21, by decide +kernel, by decide +kernel⟩
theorem xcok18 : xcok 18 := ⟨RX18, rfl, rfl, fun w h => xW_of (xsub_in _ _ xLY_ok w (List.mem_append_right _ (List.mem_append_right _ (List.mem_append_right _ (List.mem_append_right _ (List.mem_append_right _ (List.mem_append_right _ (List.mem_append_right _ (List.mem_append_right _ (List.mem_append_right _ (List.mem_append_right _ (List.mem_append_right _ (List.mem_append_right _ (List.mem_append_right _ (List.mem_append_right _ (List.mem_append_right _ (List.mem_append_right _ (List.mem_append_right _ (List.mem_append_right _ (List.mem_append_left _ h)))))))))))))))))))) (u_good w h), tyX18_ok, nmX18, by decide +kernel, by decide +kernel⟩
theorem xcok17 : xcok 17 := ⟨RX17, rfl, rfl, fun w h => xW_of (xsub_in _ _ xLY_ok w (List.mem_append_right _ (List.mem_append_right _ (List.mem_append_right _ (List.mem_append_right _ (List.mem_append_right _ (List.mem_append_right _ (List.mem_append_right _ (List.mem_append_right _ (List.mem_append_right _ (List.mem_append_right _ (List.mem_append_right _ (List.mem_append_right _ (List.mem_append_right _ (List.mem_append_right _ (List.mem_append_right _ (List.mem_append_right _ (List.mem_append_right _ (List.mem_append_right _ (List.mem_append_right _ (List.mem_append_left _ h))))))))))))))))))))) (u_good w h), tyX17_ok, nmX17, by decide +kernel, by decide +kernel⟩
theorem xcok15 : xcok 15 := ⟨RX15, rfl, rfl, fun w h => xW_of (xsub_in _ _ xLY_ok w (List.mem_append_right _ (List.mem_append_right _ (List.mem_append_right _ (List.mem_append_right _ (List.mem_append_right _ (List.mem_append_right _ (List.mem_append_right _ (List.mem_append_right _ (List.mem_append_right _ (List.mem_append_right _ (List.mem_append_right _ (List.mem_append_right _ (List.mem_append_right _ (List.mem_append_right _ (List.mem_append_right _ (List.mem_append_right _ (List.mem_append_right _ (List.mem_append_right _ (List.mem_append_right _ (List.mem_append_right _ (List.mem_append_left _ h)))))))))))))))))))))) (u_good w h), tyX15_ok, nmX15, by decide +kernel, by decide +kernel⟩
theorem xcok14 : xcok 14 := ⟨RX14, rfl, rfl, fun w h => xW_of (xsub_in _ _ xLY_ok w (List.mem_append_right _ (List.mem_append_right _ (List.mem_append_right _ (List.mem_append_right _ (List.mem_append_right _ (List.mem_append_right _ (List.mem_append_right _ (List.mem_append_right _ (List.mem_append_right _ (List.mem_append_right _ (List.mem_append_right _ (List.mem_append_right _ (List.mem_append_right _ (List.mem_append_right _ (List.mem_append_right _ (List.mem_append_right _ (List.mem_append_right _ (List.mem_append_right _ (List.mem_append_right _ (List.mem_append_right _ (List.mem_append_right _ (h))))))))))))))))))))))) (u_good w h), tyX14_ok, nmX14, by decide +kernel, by decide +kernel⟩
theorem xcok_all : ∀ a, a < 22 → xcok a
  | 0, _ => xcok0
  | 1, _ => xcok1
  | 2, _ => xcok2
  | 3, _ => xcok3
  | 4, _ => xcok4
  | 5, _ => xcok5
  | 6, _ => xcok6
  | 7, _ => xcok7
  | 8, _ => xcok8
  | 9, _ => xcok9
  | 10, _ => xcok10
  | 11, _ => xcok11
  | 12, _ => xcok12
  | 13, _ => xcok13
  | 14, _ => xcok14
  | 15, _ => xcok15
  | 16, _ => xcok16
  | 17, _ => xcok17
  | 18, _ => xcok18
  | 19, _ => xcok19
  | 20, _ => xcok20
  | 21, _ => xcok21
  | n + 22, h => absurd h (by omega)
def xnas : List (List Nat) := [[5, 2, 3, 4, 2, 3, 1, 2, 0, 2, 0, 2, 1, 1, 1, 1, 2, 0, 1, 1, 1, 1, 4, 2, 2, 1, 2, 1, 3], [3, 2, 3, 5, 5, 1, 3, 1, 1, 1, 0, 2, 3, 1, 1, 2, 2, 0, 1, 2, 3, 0, 5, 2, 5, 1, 1, 0, 1, 1, 0, 2, 2, 3, 3, 2, 1, 2, 1, 1, 2, 0, 0, 0, 0, 2, 1, 1, 3, 0, 1, 1, 2, 3, 4, 2, 1, 1, 1], [2, 3, 1, 1, 1, 2, 1, 2, 2, 2, 1, 1, 1, 0, 1, 4, 1, 3, 2, 1, 1, 2, 4, 3, 2, 3, 2, 3, 1, 0, 0, 0], [2, 2, 2, 2, 0, 1, 1, 4, 0, 0, 4, 4, 1, 5, 1, 1, 2, 0, 1, 3, 0, 0, 4, 2, 2, 0, 2, 2, 2, 2, 1, 2, 0, 2, 1, 1, 1, 2, 1], [1, 2, 0, 1, 1, 0, 2, 0, 3, 1, 1, 1, 3, 1, 1, 0, 1, 2, 1, 1, 1, 1, 2, 1, 1, 0, 1, 1, 2, 0, 4, 3, 3, 3, 3, 3, 3, 1, 3], [2, 1, 2, 1, 4, 1, 1, 0, 1, 0, 2, 1, 1, 2, 1, 3, 0, 0, 1, 3, 0, 1, 2, 3, 1, 1, 2], [1, 1, 0, 1, 0, 2, 1, 2, 1, 2, 1, 2, 2, 2, 2, 1, 0, 3, 1], [5, 2, 0, 1, 3], [1, 1, 1, 2, 1, 0, 1, 1, 1, 1, 1, 1, 3, 2, 2, 1, 0, 2, 1, 1, 2, 1, 1], [2, 1, 1, 4, 1, 1, 2, 1, 0, 3, 2, 2, 1, 2, 0, 0, 1, 0, 1, 0, 1, 3, 2, 1, 1, 0, 0, 1, 1], [2, 1, 1, 2, 0, 1, 0, 1, 2, 0, 1, 1, 1, 1, 2, 2, 1, 1, 0, 1, 1, 0], [3, 1, 3, 3, 2, 4, 4, 1, 4, 1, 1, 0, 1, 2, 1, 1, 1, 0, 0, 1, 5, 1, 1, 0, 1, 1, 1, 1, 1, 2, 0, 2, 1, 0, 3, 5, 0, 1, 0, 1, 2, 1, 4, 1, 0, 2, 1, 1, 0, 2, 0, 1, 0, 2, 0, 3, 1, 2, 1], [2, 1, 1, 1, 1, 1, 1, 1, 0, 0, 2, 0, 1, 0, 1, 1, 1, 3, 0, 2, 0, 0, 0, 1, 0, 2, 1, 1, 1, 1, 1, 1, 1, 3, 2, 1, 0, 1, 3, 0, 3, 1, 1, 0, 1, 2, 0, 3, 1, 1, 1, 2, 1, 0, 1, 0], [1, 1, 0, 1, 1, 1, 1, 1, 1, 1, 2, 0, 1, 0, 0, 0, 0, 0, 1], [2, 2, 2, 4, 3, 2, 0, 7, 2, 1, 1, 3, 4, 1, 1, 3, 2, 2, 2, 2, 1, 1, 1, 2, 2, 1, 4, 3, 2, 4, 3, 2, 3, 6, 2, 2], [8, 1, 0, 2, 0, 0, 4, 1, 1, 1, 1, 1, 2, 1, 1, 3, 1, 1, 1, 1, 5, 1, 2, 5, 0, 0, 2, 5], [9, 3, 2, 0, 1, 0, 1, 1, 5, 0, 1, 0, 1, 2, 1, 1, 0, 0, 2, 0, 0, 0, 0, 0, 0, 0, 0, 0, 1, 2, 1, 2, 4, 0], [3, 3, 2, 3, 3, 2, 4, 1, 0, 1, 1, 4, 1, 1, 1, 3, 1, 1, 1, 2, 0, 1, 1, 0, 1, 3, 4, 1, 1, 1, 2, 5, 0, 0], [0, 2, 3, 2, 2, 0, 1, 1, 1, 2, 2, 1, 2, 0, 4, 5, 1, 2, 3, 4, 1, 2, 1, 1, 2, 1, 2, 0, 0, 4, 3, 2, 2, 0, 1, 1, 5], [3, 1, 1, 2, 1, 0, 0, 0, 0, 1, 1, 2, 0, 0, 0, 1, 1, 2, 1, 1, 0, 1, 4, 2, 3, 1, 2, 2, 1, 1, 2, 5, 2, 0, 2, 1], [3, 2, 1, 1, 2, 2, 0, 2, 1, 1, 2, 3, 2, 1, 1, 1, 1, 1, 1, 2, 1, 2, 2, 1, 2, 1, 1, 2, 2, 1, 2, 1, 0, 2, 0, 0, 4, 1, 2, 3, 2, 1, 1, 1, 1, 1, 2, 1, 2, 6, 3, 0, 1, 2, 3, 1, 0], [3, 3, 3, 2, 4, 4, 1, 4, 1, 1, 0, 1, 1, 1, 2, 1, 1, 1, 0, 2, 0, 5, 1, 2, 1, 2, 0, 4, 4, 2, 0, 1, 0, 1, 1, 3, 1, 1, 2, 0, 3, 2, 1, 1, 0, 3, 5, 1, 1, 0, 1, 0, 2, 1, 2, 1, 1, 6, 4, 1, 3, 5, 0, 2, 1, 1, 1, 0, 1, 9, 1, 0, 0, 2, 0, 2, 0, 3, 3, 1, 1], [1]]
def xna (c i : Nat) : Nat := (xnas.getD c []).getD i 99
def xOI : List (Nat × Nat) := [(11, 1), (2, 3), (9, 3), (3, 5), (7, 3), (0, 3), (6, 7), (1, 5), (8, 3), (4, 3), (10, 3), (5, 5), (21, 1), (20, 1), (16, 1), (12, 1), (13, 1), (19, 1), (18, 1), (17, 1), (15, 1), (14, 1)]
theorem xOI_ok : xsub tables_1 (xOI.map fun e => .methodLink (xcn e.1) e.2 Lib.objectInit) = true := by decide +kernel
theorem xOI_w : Cond.instanceMethod Lib.objectInit ∈ tables_1 ∧ Cond.code Lib.objectInit ⟨#[0xb1]⟩ 1 none ∈ tables_1 := ⟨xsub_in _ [Cond.instanceMethod Lib.objectInit] (by decide +kernel) _ List.mem_cons_self, xsub_in _ [Cond.code Lib.objectInit ⟨#[0xb1]⟩ 1 none] (by decide +kernel) _ List.mem_cons_self⟩
theorem xAC_w {t : ArrayType} (h : xatk t ≠ 0) : Cond.arrayClass (newarray.typeOf t) ∈ tables_1 := by
  cases t <;> first | exact absurd rfl h | exact xsub_in _ _ xAC_ok _ (by decide)
def xCOl1 : List (Nat × Nat) := [(11, 23), (2, 13), (9, 5), (3, 12), (7, 3), (0, 10)]
def xCOl2 : List (Nat × Nat) := [(6, 6), (1, 27), (8, 5), (4, 14)]
def xCOl3 : List (Nat × Nat) := [(10, 9), (5, 7), (11, 20), (11, 22), (11, 1), (11, 21), (11, 15), (11, 47), (11, 51), (9, 3), (2, 2), (9, 19), (9, 25), (9, 14), (9, 2), (9, 18), (9, 20), (9, 11), (2, 28)]
def xCOl4 : List (Nat × Nat) := [(9, 13), (2, 16), (2, 14), (2, 0), (2, 23), (9, 10), (9, 24), (9, 27), (9, 26), (9, 8), (2, 15), (2, 24), (2, 1), (9, 23), (2, 12), (9, 15), (9, 22), (9, 21), (9, 28), (9, 7), (9, 12), (9, 4), (9, 1), (2, 20), (9, 17), (9, 16), (9, 0), (9, 9), (9, 6), (11, 19), (2, 31), (2, 30), (2, 3), (2, 9), (2, 8), (2, 26), (2, 17), (2, 6), (2, 11), (2, 7)]
def xCOl5 : List (Nat × Nat) := [(2, 18), (2, 5), (2, 10), (2, 4), (2, 29), (3, 6), (3, 8), (7, 2), (3, 36), (7, 0), (3, 27), (3, 33), (2, 25), (3, 14), (7, 1), (2, 22), (7, 4), (3, 5), (3, 9), (3, 3), (2, 21), (3, 0), (3, 11), (3, 13), (2, 27), (3, 28), (3, 2), (3, 37), (3, 1), (3, 17), (3, 25), (3, 7), (3, 24), (3, 19), (3, 16), (3, 35), (3, 18), (3, 10), (3, 23), (3, 22), (3, 20), (3, 26), (3, 29), (3, 21), (3, 32), (3, 4), (11, 49), (3, 38), (3, 15), (11, 26), (11, 31), (11, 58), (2, 19), (11, 30)]
def xCOl6 : List (Nat × Nat) := [(11, 29), (3, 31), (11, 28), (3, 30), (11, 37), (3, 34), (11, 5), (11, 57), (0, 3), (0, 22), (0, 8), (0, 14), (0, 6), (0, 21), (0, 5), (0, 25), (11, 35), (0, 0), (0, 23), (0, 9), (0, 20), (0, 11), (0, 15), (11, 3), (0, 2), (11, 8), (11, 25), (11, 41), (0, 17), (0, 13), (0, 12), (6, 4), (6, 2), (6, 10), (6, 3), (0, 19), (0, 18), (6, 5), (0, 1), (6, 18), (6, 7), (6, 8), (6, 14), (6, 17), (0, 7), (0, 16), (0, 27), (0, 26), (6, 12), (6, 16), (6, 15), (0, 24), (6, 11), (6, 1), (6, 9), (6, 0)]
def xCOl7 : List (Nat × Nat) := [(6, 13), (11, 55), (0, 28), (11, 9), (11, 4), (0, 4), (11, 42), (11, 24), (11, 11), (1, 37), (1, 45), (1, 4), (1, 2), (1, 3), (1, 1), (1, 24), (1, 21), (1, 7), (1, 52), (1, 51), (1, 36), (1, 46), (1, 48), (1, 12), (1, 22), (1, 34), (1, 41), (1, 17), (1, 38), (1, 39), (1, 35), (1, 10), (1, 18), (1, 19), (1, 54), (1, 31), (1, 28), (1, 0), (1, 23), (1, 15), (1, 20), (1, 33), (1, 43), (1, 42), (1, 40), (1, 53), (1, 55), (1, 57), (1, 58), (1, 44), (11, 54), (11, 53), (1, 16), (11, 7), (1, 8), (11, 0)]
def xCOl8 : List (Nat × Nat) := [(1, 6), (11, 48), (11, 17), (1, 30), (11, 13), (1, 11), (1, 56), (1, 14), (1, 13), (1, 9), (1, 32), (1, 25), (1, 26), (11, 39), (1, 47), (1, 50), (1, 49), (1, 29), (11, 33), (8, 3), (8, 20), (8, 10), (8, 19), (8, 2), (8, 13), (8, 12), (8, 8), (8, 22), (8, 17), (8, 7), (8, 4), (8, 15), (8, 21), (8, 18), (8, 11), (8, 6), (8, 9), (8, 14), (8, 16), (4, 27), (4, 5), (11, 18), (4, 28), (1, 5), (11, 43), (4, 13), (4, 30), (4, 15), (4, 38), (8, 1), (4, 36), (4, 25), (4, 22), (4, 10), (4, 26), (4, 18), (4, 4)]
def xCOl9 : List (Nat × Nat) := [(4, 7), (4, 6), (4, 11), (4, 21), (4, 16), (4, 8), (4, 12), (4, 32), (4, 33), (4, 34), (4, 31), (4, 35), (4, 23), (4, 29), (4, 24), (4, 0), (8, 0), (4, 20), (4, 37), (4, 19), (4, 1), (4, 17), (11, 32), (11, 16), (4, 9), (11, 12), (4, 3), (11, 44), (10, 12), (10, 8), (10, 20), (10, 16), (10, 15), (10, 1), (10, 19), (10, 17), (10, 0), (10, 2), (10, 4), (10, 7), (10, 6), (10, 11), (11, 14), (10, 5), (10, 10), (11, 50), (10, 21), (11, 10), (10, 13), (11, 38), (10, 18), (11, 45), (10, 3), (11, 27), (10, 14)]
def xCOl10 : List (Nat × Nat) := [(11, 36), (4, 2), (5, 0), (5, 6), (5, 14), (5, 11), (5, 3), (5, 1), (5, 13), (5, 16), (5, 5), (5, 26), (5, 17), (5, 15), (11, 2), (5, 23), (5, 8), (11, 56), (5, 24), (11, 46), (5, 18), (11, 40), (5, 22), (5, 21), (11, 34), (5, 19), (5, 10), (5, 2), (5, 12), (11, 6), (5, 4), (5, 9), (5, 20), (5, 25), (11, 52), (21, 30), (20, 14)]
def xCOl11 : List (Nat × Nat) := [(16, 9), (12, 22), (12, 13), (12, 18)]
def xCOl12 : List (Nat × Nat) := [(13, 5), (19, 14), (19, 31), (19, 32)]
def xCOl14 : List (Nat × Nat) := [(21, 74), (21, 21), (21, 48), (21, 34), (21, 16), (21, 70), (21, 47), (20, 6), (20, 52), (20, 32), (20, 13), (20, 35), (20, 2), (20, 3), (20, 15), (20, 9), (20, 28), (20, 0), (20, 25), (20, 18), (20, 21), (20, 26), (20, 49), (20, 4), (20, 1), (20, 19), (20, 30), (20, 31), (20, 40), (20, 48), (20, 36), (20, 7), (20, 16), (20, 53), (20, 54), (20, 12), (20, 10), (20, 39), (20, 37), (20, 22), (20, 24), (20, 34), (20, 8), (20, 33), (20, 38), (20, 23), (18, 5)]
def xCOl15 : List (Nat × Nat) := [(21, 13), (20, 20), (20, 17), (20, 29), (21, 52), (21, 23), (21, 35), (20, 50), (20, 11), (21, 31), (21, 61), (18, 32), (18, 11), (18, 0), (18, 13), (18, 16), (18, 17), (18, 9), (18, 4), (18, 2), (18, 12), (18, 20), (18, 15), (18, 24), (18, 14), (18, 22), (18, 21), (18, 28), (18, 35), (21, 78), (20, 27), (18, 36), (18, 10), (18, 31), (21, 40), (18, 18), (18, 19), (18, 8), (18, 30), (21, 73), (18, 29), (21, 12), (21, 33), (20, 51), (21, 41)]
def xCOl16 : List (Nat × Nat) := [(21, 80), (20, 55), (20, 56), (20, 45), (20, 41), (20, 44), (20, 46), (20, 43), (20, 47), (20, 5), (20, 42), (21, 39), (18, 27), (21, 38), (18, 26), (18, 1), (18, 33), (21, 37), (18, 23), (18, 25), (18, 3), (21, 50), (18, 34), (18, 6), (18, 7), (21, 4), (17, 11), (21, 46), (17, 4), (21, 25), (21, 56), (17, 20), (17, 26), (17, 13), (17, 18), (21, 2), (17, 1), (21, 7)]
def xCOl17 : List (Nat × Nat) := [(17, 6), (17, 12), (17, 32), (21, 55), (17, 29), (17, 23), (17, 14), (17, 33), (17, 8), (17, 17), (17, 5), (17, 10), (17, 30), (17, 19), (17, 16), (17, 28), (17, 3), (17, 31), (17, 21), (17, 9), (17, 15), (17, 0), (17, 24), (21, 77), (17, 25), (21, 8), (17, 7), (21, 3), (17, 2), (21, 58), (21, 10), (21, 24), (21, 69), (14, 32), (14, 4), (14, 20), (14, 18), (14, 1), (14, 2), (15, 20), (15, 11), (15, 8), (15, 12), (15, 14), (15, 0), (15, 22), (15, 9), (21, 60), (21, 27), (21, 57), (15, 23), (21, 29), (21, 28), (15, 27), (16, 8), (16, 14), (16, 12)]
def xCOl18 : List (Nat × Nat) := [(16, 13), (16, 0), (15, 7), (14, 9), (16, 29), (16, 10), (16, 1), (16, 18), (16, 7), (16, 4), (16, 20), (16, 31), (16, 32), (16, 28), (16, 19), (14, 29), (14, 13), (14, 31), (14, 6), (14, 0), (14, 14), (14, 30), (14, 17), (14, 19), (14, 8), (14, 26)]
def xCOl19 : List (Nat × Nat) := [(14, 25), (14, 5), (14, 7), (14, 3), (14, 34), (14, 24), (14, 16), (14, 10), (14, 27), (14, 12), (14, 28), (14, 15), (14, 11), (14, 23), (14, 33), (14, 22), (17, 22), (15, 24), (15, 2), (15, 5), (15, 4), (15, 26), (15, 6), (15, 17), (15, 21), (15, 13), (15, 19), (15, 1), (15, 18), (21, 76), (21, 75), (14, 35), (14, 21), (21, 6), (15, 16), (15, 10), (15, 25), (21, 0), (15, 15), (15, 3), (21, 71), (21, 18), (21, 14), (21, 65), (21, 64), (21, 66), (21, 67), (21, 53), (16, 3), (16, 30), (16, 21), (16, 25), (16, 6), (16, 16), (16, 5), (16, 22), (16, 24), (16, 33), (16, 11), (16, 15), (16, 27)]
def xCOl20 : List (Nat × Nat) := [(16, 26), (16, 23), (16, 17), (16, 2), (21, 44), (12, 54), (12, 39), (12, 36), (12, 24), (12, 8), (12, 34), (12, 3), (12, 33), (12, 46), (12, 29), (12, 44), (12, 41), (12, 27), (12, 31), (12, 43), (12, 23), (12, 10), (12, 11), (12, 16), (12, 52), (12, 20), (12, 12), (12, 21), (12, 49), (12, 45), (12, 40), (12, 42), (12, 26), (21, 20), (12, 32), (12, 1), (21, 19), (21, 43), (17, 27), (12, 17), (12, 25), (12, 28), (21, 59), (12, 48), (12, 55), (12, 14), (12, 38), (12, 37), (12, 6), (12, 9), (12, 50), (12, 51), (12, 4), (12, 47), (12, 19), (12, 7), (12, 0), (12, 5), (12, 30), (12, 53), (21, 42)]
def xCOl21 : List (Nat × Nat) := [(12, 35), (21, 17), (12, 15), (21, 11), (12, 2), (21, 62), (21, 26), (13, 17), (13, 12), (13, 0), (13, 1), (13, 14), (13, 7), (21, 22), (13, 6), (13, 2), (13, 8), (13, 18), (13, 16), (21, 15), (13, 9), (13, 4), (21, 72), (13, 13), (21, 9), (13, 3), (21, 51), (13, 11), (21, 63), (13, 10), (13, 15), (21, 36), (21, 49), (19, 20), (21, 32), (19, 10), (19, 11), (19, 3), (19, 16), (19, 7), (19, 21), (19, 9), (19, 25), (19, 8), (19, 2), (19, 34), (19, 19), (19, 12), (19, 26), (21, 1), (19, 0), (19, 18), (19, 22), (19, 15), (19, 33), (21, 79), (19, 35)]
def xCOl22 : List (Nat × Nat) := [(21, 68), (19, 29), (21, 54), (19, 27), (21, 45), (19, 24), (19, 17), (19, 1), (19, 30), (19, 28), (21, 5), (19, 6), (19, 4), (19, 23), (19, 5), (19, 13)]
def xCOl : List (Nat × Nat) := xCOl1 ++ (xCOl2 ++ (xCOl3 ++ (xCOl4 ++ (xCOl5 ++ (xCOl6 ++ (xCOl7 ++ (xCOl8 ++ (xCOl9 ++ (xCOl10 ++ (xCOl11 ++ (xCOl12 ++ (xCOl14 ++ (xCOl15 ++ (xCOl16 ++ (xCOl17 ++ (xCOl18 ++ (xCOl19 ++ (xCOl20 ++ (xCOl21 ++ (xCOl22))))))))))))))))))))
theorem xCO_w : ∀ e ∈ xCOl, xcw e ∈ tables_1 := fun e h => (List.mem_append.mp h).elim (fun h => xco1 e h) (fun h => (List.mem_append.mp h).elim (fun h => xco2 e h) (fun h => (List.mem_append.mp h).elim (fun h => xco3 e h) (fun h => (List.mem_append.mp h).elim (fun h => xco4 e h) (fun h => (List.mem_append.mp h).elim (fun h => xco5 e h) (fun h => (List.mem_append.mp h).elim (fun h => xco6 e h) (fun h => (List.mem_append.mp h).elim (fun h => xco7 e h) (fun h => (List.mem_append.mp h).elim (fun h => xco8 e h) (fun h => (List.mem_append.mp h).elim (fun h => xco9 e h) (fun h => (List.mem_append.mp h).elim (fun h => xco10 e h) (fun h => (List.mem_append.mp h).elim (fun h => xco11 e h) (fun h => (List.mem_append.mp h).elim (fun h => xco12 e h) (fun h => (List.mem_append.mp h).elim (fun h => xco14 e h) (fun h => (List.mem_append.mp h).elim (fun h => xco15 e h) (fun h => (List.mem_append.mp h).elim (fun h => xco16 e h) (fun h => (List.mem_append.mp h).elim (fun h => xco17 e h) (fun h => (List.mem_append.mp h).elim (fun h => xco18 e h) (fun h => (List.mem_append.mp h).elim (fun h => xco19 e h) (fun h => (List.mem_append.mp h).elim (fun h => xco20 e h) (fun h => (List.mem_append.mp h).elim (fun h => xco21 e h) (fun h => xco22 e h))))))))))))))))))))
/-- one row of a method: what its instruction links -/
def xOkX (own : Nat) (ini : Bool) (x : XI) : Bool :=
  match x.2.1 with
  | .getfield idx => (xFL.contains (own, idx, x.2.2.1, x.2.2.2.1 / 8) || xFN.any (fun e => decide ((e.1, e.2.1, e.2.2.1, e.2.2.2.1) = (own, idx, x.2.2.1, x.2.2.2.1 / 8)))) && (Nat.blt x.2.2.1 22 && (x.2.2.2.1 % 8 == xkd (xtyp x.2.2.1 (x.2.2.2.1 / 8)) && Nat.blt (x.2.2.2.1 / 8) (xnf x.2.2.1)))
  | .putfield idx => (xFL.contains (own, idx, x.2.2.1, x.2.2.2.1 / 8) || (xFN.any (fun e => decide ((e.1, e.2.1, e.2.2.1, e.2.2.2.1) = (own, idx, x.2.2.1, x.2.2.2.1 / 8))) && !(xTb x.2.2.1 (x.2.2.2.1 / 8)).2.2.2)) && (Nat.blt x.2.2.1 22 && (x.2.2.2.1 % 8 == xkd (xtyp x.2.2.1 (x.2.2.2.1 / 8)) && (Nat.blt (x.2.2.2.1 / 8) (xnf x.2.2.1) && (!(xTb x.2.2.1 (x.2.2.2.1 / 8)).2.2.2 || (ini && own == x.2.2.1)))))
  | .new idx => xCK.contains (own, idx, x.2.2.1) && (xIN.contains (x.2.2.1, x.2.2.2.1) && (xIT.contains x.2.2.1 && (x.2.2.2.1 == xnf x.2.2.1 && Nat.blt x.2.2.1 22)))
  | .newarray t => x.2.2.1 == xatk t && !(x.2.2.1 == 0)
  | .anewarray idx => x.2.2.1 == 130 && xCK.contains (own, idx, 20)
  | .invokevirtual idx => if x.2.2.1 = 999 then true else (xML.contains (own, idx, x.2.2.1, x.2.2.2.1 / 64) || xMN.any (fun e => decide ((e.1, e.2.1, e.2.2.1, e.2.2.2.1) = (own, idx, x.2.2.1, x.2.2.2.1 / 64)))) && (xIM.contains (x.2.2.1, x.2.2.2.1 / 64) && ((xPV.contains (x.2.2.1, x.2.2.2.1 / 64) || xSE.contains (x.2.2.1, x.2.2.2.1 / 64)) && (xIT.contains x.2.2.1 && (xCOl.contains (x.2.2.1, x.2.2.2.1 / 64) && (x.2.2.2.1 % 64 == xna x.2.2.1 (x.2.2.2.1 / 64) && Nat.blt x.2.2.1 22)))))
  | .invokespecial idx => if x.2.2.1 = 999 then xOI.contains (own, idx) else (xML.contains (own, idx, x.2.2.1, x.2.2.2.1 / 64) || xMN.any (fun e => decide ((e.1, e.2.1, e.2.2.1, e.2.2.2.1) = (own, idx, x.2.2.1, x.2.2.2.1 / 64)))) && (xIM.contains (x.2.2.1, x.2.2.2.1 / 64) && ((xmr x.2.2.1 (x.2.2.2.1 / 64)).1 == "<init>" && (xIT.contains x.2.2.1 && (xCOl.contains (x.2.2.1, x.2.2.2.1 / 64) && (x.2.2.2.1 % 64 == xna x.2.2.1 (x.2.2.2.1 / 64) && ((xmr x.2.2.1 (x.2.2.2.1 / 64)).2.2.2.2 == none && Nat.blt x.2.2.1 22))))))
  | .invokestatic idx => if x.2.2.1 = 999 then true else (xML.contains (own, idx, x.2.2.1, x.2.2.2.1 / 64) || xMN.any (fun e => decide ((e.1, e.2.1, e.2.2.1, e.2.2.2.1) = (own, idx, x.2.2.1, x.2.2.2.1 / 64)))) && (xSM.contains (x.2.2.1, x.2.2.2.1 / 64) && (xIT.contains x.2.2.1 && (xCOl.contains (x.2.2.1, x.2.2.2.1 / 64) && (x.2.2.2.1 % 64 == xna x.2.2.1 (x.2.2.2.1 / 64) && Nat.blt x.2.2.1 22))))
  | .ldc idx => x.2.2.1 == 1 || xKI.contains (own, idx, x.2.2.2.2)
  | .ldc_w idx => x.2.2.1 == 1 || xKI.contains (own, idx, x.2.2.2.2)
  | .ldc2_w idx => xKL.contains (own, idx, x.2.2.2.2)
  | _ => true
def xOkC (w : XRow) : Nat → List XI → Nat → Bool
  | pc, [], fall => pc == fall
  | pc, x :: r, fall => x.1 == pc && (match decode w.2.2.1 pc with
    | .ok q => decide (q.1 = x.2.1) && ((xisw x.2.1 || q.2 == xlen x.2.1) && (xjok pc x.2.1 && (xOkX w.1 (w.2.1.name == "<init>") x && xOkC w (pc + q.2) r fall)))
    | .error _ => false)
def xRowOk (w : XRow) : Bool := w.2.2.2.2.2.all fun q => xOkC w q.1 q.2.1 q.2.2
def xfind : XB → Nat → List XI × Nat
  | [], t => ([], t)
  | q :: r, t => if q.1 = t then (q.2.1, q.2.2) else xfind r t
def xsim (w : XRow) (x : XI) (lv : List (Nat × Value)) (st : List Value) (m : XM) : Option (List (Nat × Value) × List Value × XM) :=
  match xs1 x.2.1 lv st with
  | some q => some (lv, q, m)
  | none => match xs6 x.2.1 x.2.2.1 x.2.2.2.1 st m with
    | some q => some (lv, q.1, q.2)
    | none => match xs2 x.2.1 st with
      | some q => some (lv, q, m)
      | none => match xs5 w.2.2.2.1 x.2.1 lv st with
        | some q => some (q.1, q.2, m)
        | none => match xs7 x.2.1 st m with
          | some q => some (lv, q.1, q.2)
          | none => match xs3 x.2.1 st with
            | some q => some (lv, q, m)
            | none => match xs4 x.2.1 st with
              | some q => some (lv, q, m)
              | none => match xs8 x.2.1 x.2.2.1 x.2.2.2.1 st m with
                | some q => some (lv, q.1, q.2)
                | none => match xs9 x.2.1 x.2.2.1 x.2.2.2.2 st with
                  | some q => some (lv, q, m)
                  | none => none
def xcall (P : Nat → Nat → XRow) (i : Instr) (a b : Nat) (st : List Value) (m : XM) : Option (XRow × List Value × List Value) :=
  match i with
  | .invokevirtual _ => match st.drop (b % 64) with
    | .ref k :: r => if (x0 ≤ k ∧ k < xn m ∧ (xsh m k).1 = a) ∧ a < 22 ∧ Nat.blt 8 (xcats r) = false then some (P a (b / 64), .ref k :: (st.take (b % 64)).reverse, r) else none
    | _ => none
  | .invokespecial _ => match st.drop (b % 64) with
    | .ref k :: r => if a < 22 ∧ Nat.blt 8 (xcats r) = false then some (P a (b / 64), .ref k :: (st.take (b % 64)).reverse, r) else none
    | _ => none
  | .invokestatic _ => if a < 22 ∧ Nat.ble (b % 64) st.length = true ∧ Nat.blt 8 (xcats (st.drop (b % 64))) = false then some (P a (b / 64), (st.take (b % 64)).reverse, st.drop (b % 64)) else none
  | _ => none
def xret (ret : Option FieldType) (i : Instr) (st : List Value) : Option (Option Value) :=
  match i with
  | .return_ => match st with | [] => (match ret with | none => some none | _ => none) | _ => none
  | .ireturn => match st with
    | [.int v] => (match ret with
      | some .int => some (some (.int v))
      | some .boolean => if v &&& 1 = v then some (some (.int v)) else none
      | some .char => if v.toUInt32.toUInt16.toUInt32.toInt32 = v then some (some (.int v)) else none
      | _ => none)
    | _ => none
  | .lreturn => match st with | [.long v] => (match ret with | some .long => some (some (.long v)) | _ => none) | _ => none
  | .areturn => match st with | [.ref k] => (match ret with | some (.object _) => some (some (.ref k)) | some (.array _) => some (some (.ref k)) | _ => none) | _ => none
  | _ => none
abbrev XRun : Type := Nat → XRow → List XI → Nat → List (Nat × Value) → List Value → XM → Option (Option Value × XM)
def xgo (ih : XRun) (d : Nat) (w : XRow) (t : Nat) (lv : List (Nat × Value)) (st : List Value) (m : XM) : Option (Option Value × XM) := ih d w (xfind w.2.2.2.2.2 t).1 (xfind w.2.2.2.2.2 t).2 lv st m
def xbody (P : Nat → Nat → XRow) (ih : XRun) : XRun := fun d w code fall lv st m =>
  match code with
  | [] => xgo ih d w fall lv st m
  | x :: r => match xsim w x lv st m with
    | some q => ih d w r fall q.1 q.2.1 q.2.2
    | none => match xbr x.1 x.2.1 st with
      | some q => (match q.1 with | some t => xgo ih d w t lv q.2 m | none => ih d w r fall lv q.2 m)
      | none => match xcall P x.2.1 x.2.2.1 x.2.2.2.1 st m with
        | some q => if Nat.ble (xcats q.2.1) q.1.2.2.2.1 = true then (match d with
          | 0 => none
          | d + 1 => match xgo ih d q.1 0 (lv_args 0 q.2.1) [] m with
            | some o => ih (d + 1) w r fall lv (o.1.toList ++ q.2.2) o.2
            | none => none) else none
        | none => match xret w.2.2.2.2.1 x.2.1 st with
          | some v => some (v, m)
          | none => none
noncomputable def xrun (P : Nat → Nat → XRow) (f : Nat) : XRun := Nat.rec (motive := fun _ => XRun) (fun _ _ _ _ _ _ _ => none) (fun _ ih => xbody P ih) f
