
/-! THE LAW: all calls -/
noncomputable def lwSp : ZSp LwS := fun m => match m with
  | 0 => lf0
  | 1 => lf1
  | 2 => lf2
  | 3 => lf3
  | 4 => lf4
  | 5 => lf5
  | 6 => lf6
  | 7 => lf7
  | 8 => lf8
  | 9 => lf9
  | 10 => lf10
  | 11 => lf11
  | 12 => lf12
  | 13 => lf13
  | 14 => lf14
  | 15 => lf15
  | 16 => lf16
  | 17 => lf17
  | 18 => lf18
  | 19 => lf19
  | 20 => lf20
  | 21 => lf21
  | 22 => lf22
  | 23 => lf23
  | 24 => lf24
  | 25 => lf25
  | 26 => lf26
  | 27 => lf27
  | 28 => lf28
  | 29 => lf29
  | 30 => lf30
  | 31 => lf31
  | 32 => lf32
  | 33 => lf33
  | 34 => lf34
  | 35 => lf35
  | 36 => lf36
  | 37 => lf37
  | 38 => lf38
  | 39 => lf39
  | 40 => lf40
  | 41 => lf41
  | 42 => lf42
  | 43 => lf43
  | 44 => lf44
  | 45 => lf45
  | 46 => lf46
  | 47 => lf47
  | 48 => lf48
  | _ => fun σ _ _ _ _ _ => (σ, 0)
theorem lw_hA : ∀ m, m < 49 → ZSnd 200 11 (zIA.getD m 0) (zTF 40 m lwCal lwA zfA (lwSp m))
  | 0, _ => lwA0
  | 1, _ => lwA1
  | 2, _ => lwA2
  | 3, _ => lwA3
  | 4, _ => lwA4
  | 5, _ => lwA5
  | 6, _ => lwA6
  | 7, _ => lwA7
  | 8, _ => lwA8
  | 9, _ => lwA9
  | 10, _ => lwA10
  | 11, _ => lwA11
  | 12, _ => lwA12
  | 13, _ => lwA13
  | 14, _ => lwA14
  | 15, _ => lwA15
  | 16, _ => lwA16
  | 17, _ => lwA17
  | 18, _ => lwA18
  | 19, _ => lwA19
  | 20, _ => lwA20
  | 21, _ => lwA21
  | 22, _ => lwA22
  | 23, _ => lwA23
  | 24, _ => lwA24
  | 25, _ => lwA25
  | 26, _ => lwA26
  | 27, _ => lwA27
  | 28, _ => lwA28
  | 29, _ => lwA29
  | 30, _ => lwA30
  | 31, _ => lwA31
  | 32, _ => lwA32
  | 33, _ => lwA33
  | 34, _ => lwA34
  | 35, _ => lwA35
  | 36, _ => lwA36
  | 37, _ => lwA37
  | 38, _ => lwA38
  | 39, _ => lwA39
  | 40, _ => lwA40
  | 41, _ => lwA41
  | 42, _ => lwA42
  | 43, _ => lwA43
  | 44, _ => lwA44
  | 45, _ => lwA45
  | 46, _ => lwA46
  | 47, _ => lwA47
  | 48, _ => lwA48
  | n + 49, h => absurd h (by omega)
theorem lw_hB : ∀ m, m < 49 → ZSnd 200 21 (zIB.getD m 0) (zTG 165 m lwCal lwI lwB zfB (lwSp m))
  | 0, _ => lwB0
  | 1, _ => lwB1
  | 2, _ => lwB2
  | 3, _ => lwB3
  | 4, _ => lwB4
  | 5, _ => lwB5
  | 6, _ => lwB6
  | 7, _ => lwB7
  | 8, _ => lwB8
  | 9, _ => lwB9
  | 10, _ => lwB10
  | 11, _ => lwB11
  | 12, _ => lwB12
  | 13, _ => lwB13
  | 14, _ => lwB14
  | 15, _ => lwB15
  | 16, _ => lwB16
  | 17, _ => lwB17
  | 18, _ => lwB18
  | 19, _ => lwB19
  | 20, _ => lwB20
  | 21, _ => lwB21
  | 22, _ => lwB22
  | 23, _ => lwB23
  | 24, _ => lwB24
  | 25, _ => lwB25
  | 26, _ => lwB26
  | 27, _ => lwB27
  | 28, _ => lwB28
  | 29, _ => lwB29
  | 30, _ => lwB30
  | 31, _ => lwB31
  | 32, _ => lwB32
  | 33, _ => lwB33
  | 34, _ => lwB34
  | 35, _ => lwB35
  | 36, _ => lwB36
  | 37, _ => lwB37
  | 38, _ => lwB38
  | 39, _ => lwB39
  | 40, _ => lwB40
  | 41, _ => lwB41
  | 42, _ => lwB42
  | 43, _ => lwB43
  | 44, _ => lwB44
  | 45, _ => lwB45
  | 46, _ => lwB46
  | 47, _ => lwB47
  | 48, _ => lwB48
  | n + 49, h => absurd h (by omega)
def lwK (n : Nat) (x : LwS × Int) : Prop := lwCal x.1 ≤ n
theorem lwK_i {n : Nat} {c : Prop} {d : Decidable c} {a b : LwS × Int} (ha : lwK n a) (hb : lwK n b) : lwK n (@ite (LwS × Int) c d a b) := by
  by_cases h : c
  · rw [if_pos h]; exact ha
  · rw [if_neg h]; exact hb
theorem lw_c0 : ∀ (m : Nat) (σ : LwS) (a1 a2 a3 a4 a5 : Int), m ≠ 14 → lwCal (lwSp m σ a1 a2 a3 a4 a5).1 ≤ lwCal σ
  | 0, σ, a1, a2, a3, a4, a5, _ => show lwK (lwCal σ) (lf0 σ a1 a2 a3 a4 a5) from (lwK_i (Nat.le_refl _) (Nat.le_refl _))
  | 1, σ, a1, a2, a3, a4, a5, _ => show lwK (lwCal σ) (lf1 σ a1 a2 a3 a4 a5) from (lwK_i (Nat.le_refl _) (Nat.le_refl _))
  | 2, σ, a1, a2, a3, a4, a5, _ => show lwK (lwCal σ) (lf2 σ a1 a2 a3 a4 a5) from (lwK_i (Nat.le_refl _) (lwK_i (Nat.le_refl _) (lwK_i (Nat.le_refl _) (Nat.le_refl _))))
  | 3, σ, a1, a2, a3, a4, a5, _ => show lwK (lwCal σ) (lf3 σ a1 a2 a3 a4 a5) from Nat.le_refl _
  | 4, σ, a1, a2, a3, a4, a5, _ => show lwK (lwCal σ) (lf4 σ a1 a2 a3 a4 a5) from Nat.le_refl _
  | 5, σ, a1, a2, a3, a4, a5, _ => show lwK (lwCal σ) (lf5 σ a1 a2 a3 a4 a5) from Nat.le_refl _
  | 6, σ, a1, a2, a3, a4, a5, _ => show lwK (lwCal σ) (lf6 σ a1 a2 a3 a4 a5) from Nat.le_refl _
  | 7, σ, a1, a2, a3, a4, a5, _ => show lwK (lwCal σ) (lf7 σ a1 a2 a3 a4 a5) from Nat.le_refl _
  | 8, σ, a1, a2, a3, a4, a5, _ => show lwK (lwCal σ) (lf8 σ a1 a2 a3 a4 a5) from Nat.le_refl _
  | 9, σ, a1, a2, a3, a4, a5, _ => show lwK (lwCal σ) (lf9 σ a1 a2 a3 a4 a5) from Nat.le_refl _
  | 10, σ, a1, a2, a3, a4, a5, _ => show lwK (lwCal σ) (lf10 σ a1 a2 a3 a4 a5) from (lwK_i (Nat.le_refl _) (lwK_i (Nat.le_refl _) (Nat.le_refl _)))
  | 11, σ, a1, a2, a3, a4, a5, _ => show lwK (lwCal σ) (lf11 σ a1 a2 a3 a4 a5) from (lwK_i (Nat.le_refl _) (Nat.le_refl _))
  | 12, σ, a1, a2, a3, a4, a5, _ => show lwK (lwCal σ) (lf12 σ a1 a2 a3 a4 a5) from (lwK_i (Nat.le_refl _) (Nat.le_refl _))
  | 13, σ, a1, a2, a3, a4, a5, _ => show lwK (lwCal σ) (lf13 σ a1 a2 a3 a4 a5) from (lwK_i (Nat.le_refl _) (lwK_i (Nat.le_refl _) (Nat.le_refl _)))
  | 15, σ, a1, a2, a3, a4, a5, _ => show lwK (lwCal σ) (lf15 σ a1 a2 a3 a4 a5) from Nat.le_refl _
  | 16, σ, a1, a2, a3, a4, a5, _ => show lwK (lwCal σ) (lf16 σ a1 a2 a3 a4 a5) from Nat.le_refl _
  | 17, σ, a1, a2, a3, a4, a5, _ => show lwK (lwCal σ) (lf17 σ a1 a2 a3 a4 a5) from Nat.le_refl _
  | 18, σ, a1, a2, a3, a4, a5, _ => show lwK (lwCal σ) (lf18 σ a1 a2 a3 a4 a5) from Nat.le_refl _
  | 19, σ, a1, a2, a3, a4, a5, _ => show lwK (lwCal σ) (lf19 σ a1 a2 a3 a4 a5) from (lwK_i (Nat.le_refl _) (lwK_i (Nat.le_refl _) (lwK_i (Nat.le_refl _) (Nat.le_refl _))))
  | 20, σ, a1, a2, a3, a4, a5, _ => show lwK (lwCal σ) (lf20 σ a1 a2 a3 a4 a5) from Nat.le_refl _
  | 21, σ, a1, a2, a3, a4, a5, _ => show lwK (lwCal σ) (lf21 σ a1 a2 a3 a4 a5) from Nat.le_refl _
  | 22, σ, a1, a2, a3, a4, a5, _ => show lwK (lwCal σ) (lf22 σ a1 a2 a3 a4 a5) from Nat.le_refl _
  | 23, σ, a1, a2, a3, a4, a5, _ => show lwK (lwCal σ) (lf23 σ a1 a2 a3 a4 a5) from Nat.le_refl _
  | 24, σ, a1, a2, a3, a4, a5, _ => show lwK (lwCal σ) (lf24 σ a1 a2 a3 a4 a5) from Nat.le_refl _
  | 25, σ, a1, a2, a3, a4, a5, _ => show lwK (lwCal σ) (lf25 σ a1 a2 a3 a4 a5) from Nat.le_refl _
  | 26, σ, a1, a2, a3, a4, a5, _ => show lwK (lwCal σ) (lf26 σ a1 a2 a3 a4 a5) from Nat.le_refl _
  | 27, σ, a1, a2, a3, a4, a5, _ => show lwK (lwCal σ) (lf27 σ a1 a2 a3 a4 a5) from Nat.le_refl _
  | 28, σ, a1, a2, a3, a4, a5, _ => show lwK (lwCal σ) (lf28 σ a1 a2 a3 a4 a5) from (lwK_i (Nat.le_refl _) (Nat.le_refl _))
  | 29, σ, a1, a2, a3, a4, a5, _ => show lwK (lwCal σ) (lf29 σ a1 a2 a3 a4 a5) from (lwK_i (Nat.le_refl _) (Nat.le_refl _))
  | 30, σ, a1, a2, a3, a4, a5, _ => show lwK (lwCal σ) (lf30 σ a1 a2 a3 a4 a5) from (lwK_i (Nat.le_refl _) (Nat.le_refl _))
  | 31, σ, a1, a2, a3, a4, a5, _ => show lwK (lwCal σ) (lf31 σ a1 a2 a3 a4 a5) from Nat.le_refl _
  | 32, σ, a1, a2, a3, a4, a5, _ => show lwK (lwCal σ) (lf32 σ a1 a2 a3 a4 a5) from Nat.le_refl _
  | 33, σ, a1, a2, a3, a4, a5, _ => show lwK (lwCal σ) (lf33 σ a1 a2 a3 a4 a5) from Nat.le_refl _
  | 34, σ, a1, a2, a3, a4, a5, _ => show lwK (lwCal σ) (lf34 σ a1 a2 a3 a4 a5) from (lwK_i (Nat.le_refl _) (lwK_i (Nat.le_refl _) (Nat.le_refl _)))
  | 35, σ, a1, a2, a3, a4, a5, _ => show lwK (lwCal σ) (lf35 σ a1 a2 a3 a4 a5) from (lwK_i (Nat.le_refl _) (Nat.le_refl _))
  | 36, σ, a1, a2, a3, a4, a5, _ => show lwK (lwCal σ) (lf36 σ a1 a2 a3 a4 a5) from (lwK_i (Nat.le_refl _) (Nat.le_refl _))
  | 37, σ, a1, a2, a3, a4, a5, _ => show lwK (lwCal σ) (lf37 σ a1 a2 a3 a4 a5) from (lwK_i (Nat.le_refl _) (Nat.le_refl _))
  | 38, σ, a1, a2, a3, a4, a5, _ => show lwK (lwCal σ) (lf38 σ a1 a2 a3 a4 a5) from (lwK_i (Nat.le_refl _) (Nat.le_refl _))
  | 39, σ, a1, a2, a3, a4, a5, _ => show lwK (lwCal σ) (lf39 σ a1 a2 a3 a4 a5) from Nat.le_refl _
  | 40, σ, a1, a2, a3, a4, a5, _ => show lwK (lwCal σ) (lf40 σ a1 a2 a3 a4 a5) from (lwK_i (Nat.le_refl _) (Nat.le_refl _))
  | 41, σ, a1, a2, a3, a4, a5, _ => show lwK (lwCal σ) (lf41 σ a1 a2 a3 a4 a5) from (lwK_i (Nat.le_refl _) (lwK_i (Nat.le_refl _) (Nat.le_refl _)))
  | 42, σ, a1, a2, a3, a4, a5, _ => show lwK (lwCal σ) (lf42 σ a1 a2 a3 a4 a5) from by
    unfold lf42
    repeat' first
    | refine lwK_i ?_ ?_
    | exact Nat.le_refl _
  | 43, σ, a1, a2, a3, a4, a5, _ => show lwK (lwCal σ) (lf43 σ a1 a2 a3 a4 a5) from by
    unfold lf43
    repeat' first
    | refine lwK_i ?_ ?_
    | exact Nat.le_refl _
  | 44, σ, a1, a2, a3, a4, a5, _ => show lwK (lwCal σ) (lf44 σ a1 a2 a3 a4 a5) from by
    unfold lf44
    repeat' first
    | refine lwK_i ?_ ?_
    | exact Nat.le_refl _
  | 45, σ, a1, a2, a3, a4, a5, _ => show lwK (lwCal σ) (lf45 σ a1 a2 a3 a4 a5) from Nat.le_refl _
  | 46, σ, a1, a2, a3, a4, a5, _ => show lwK (lwCal σ) (lf46 σ a1 a2 a3 a4 a5) from Nat.le_refl _
  | 47, σ, a1, a2, a3, a4, a5, _ => show lwK (lwCal σ) (lf47 σ a1 a2 a3 a4 a5) from Nat.le_refl _
  | 48, σ, a1, a2, a3, a4, a5, _ => show lwK (lwCal σ) (lf48 σ a1 a2 a3 a4 a5) from Nat.le_refl _
  | 14, σ, a1, a2, a3, a4, a5, h => absurd rfl h
  | n + 49, σ, a1, a2, a3, a4, a5, h => Nat.le_refl _
theorem lw_c1 (σ : LwS) (a1 a2 a3 a4 a5 : Int) : lwCal (lwSp 14 σ a1 a2 a3 a4 a5).1 ≤ lwCal σ + 1 := by
  show lwK (lwCal σ + 1) (lf14 σ a1 a2 a3 a4 a5)
  unfold lf14
  exact lwK_i (Nat.le_succ _) (Nat.le_refl _)
