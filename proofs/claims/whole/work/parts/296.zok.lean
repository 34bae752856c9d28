/-! what the weakest preconditions say holds of a run -/
theorem z32 {x : Int} (h : r32 x) : (Int32.ofInt x).toInt = x := Int32.toInt_ofInt_of_le (by omega) (by omega)
theorem z64 {x : Int} (h : r64 x) : (Int64.ofInt x).toInt = x := Int64.toInt_ofInt_of_le (by omega) (by omega)
theorem zWi {z : Int} (h : r32 z) : zW z z := ⟨rfl, h⟩
theorem zW6i {z : Int} (h : r64 z) : zW6 z z := ⟨rfl, h⟩
theorem zWex {z : Int} {P : Int → Prop} (h : ∀ z', zW z z' → P z') : ∃ z', zW z z' ∧ P z' := by
  have h1 : zW z (Int32.ofInt z).toInt := ⟨Int32.ofInt_toInt _, by
    have h1 := Int32.le_toInt (Int32.ofInt z)
    have h2 := Int32.toInt_lt (Int32.ofInt z)
    constructor <;> omega⟩
  exact ⟨_, h1, h _ h1⟩
theorem zW6t (z : Int) : zW6 z (Int64.ofInt z).toInt := ⟨Int64.ofInt_toInt _, by
    have h1 := Int64.le_toInt (Int64.ofInt z)
    have h2 := Int64.toInt_lt (Int64.ofInt z)
    constructor <;> omega⟩
theorem zW6ex {z : Int} {P : Int → Prop} (h : ∀ z', zW6 z z' → P z') : ∃ z', zW6 z z' ∧ P z' := ⟨_, zW6t z, h _ (zW6t z)⟩
theorem zWeq {z z' : Int} (h : zW z z') (h1 : r32 z) : z' = z := by
  have h2 := congrArg Int32.toInt h.1
  rwa [z32 h.2, z32 h1] at h2
theorem zW6eq {z z' : Int} (h : zW6 z z') (h1 : r64 z) : z' = z := by
  have h2 := congrArg Int64.toInt h.1
  rwa [z64 h.2, z64 h1] at h2
theorem zlt32 {x y : Int} (hx : r32 x) (hy : r32 y) : Int32.ofInt x < Int32.ofInt y ↔ x < y := by rw [Int32.lt_iff_toInt_lt, z32 hx, z32 hy]
theorem zle32 {x y : Int} (hx : r32 x) (hy : r32 y) : Int32.ofInt x ≤ Int32.ofInt y ↔ x ≤ y := by rw [Int32.le_iff_toInt_le, z32 hx, z32 hy]
theorem zeq32 {x y : Int} (hx : r32 x) (hy : r32 y) : Int32.ofInt x = Int32.ofInt y ↔ x = y := by rw [← Int32.toInt_inj, z32 hx, z32 hy]
theorem zlt64 {x y : Int} (hx : r64 x) (hy : r64 y) : Int64.ofInt x < Int64.ofInt y ↔ x < y := by rw [Int64.lt_iff_toInt_lt, z64 hx, z64 hy]
theorem zle64 {x y : Int} (hx : r64 x) (hy : r64 y) : Int64.ofInt x ≤ Int64.ofInt y ↔ x ≤ y := by rw [Int64.le_iff_toInt_le, z64 hx, z64 hy]
theorem zeq64 {x y : Int} (hx : r64 x) (hy : r64 y) : Int64.ofInt x = Int64.ofInt y ↔ x = y := by rw [← Int64.toInt_inj, z64 hx, z64 hy]
theorem zof32 (v : Int32) : Int32.ofInt v.toInt = v := Int32.ofInt_toInt v
theorem zof64 (v : Int64) : Int64.ofInt v.toInt = v := Int64.ofInt_toInt v
theorem zcond {c : ClassFile.Cond} {x y : Int} (hx : r32 x) (hy : r32 y) {A B : Prop} (h : zbr c x y A B) : (xcond c (Int32.ofInt x) (Int32.ofInt y) = true ∧ A) ∨ (xcond c (Int32.ofInt x) (Int32.ofInt y) = false ∧ B) := by
  cases c with
  | eq =>
    by_cases e : x = y
    · exact .inl ⟨decide_eq_true ((zeq32 hx hy).mpr e), h.1 e⟩
    · exact .inr ⟨decide_eq_false (fun q => e ((zeq32 hx hy).mp q)), h.2 e⟩
  | ne =>
    by_cases e : x = y
    · exact .inr ⟨by show (!(decide (_ = _))) = false; rw [decide_eq_true ((zeq32 hx hy).mpr e)]; rfl, h.2 e⟩
    · exact .inl ⟨by show (!(decide (_ = _))) = true; rw [decide_eq_false (fun q => e ((zeq32 hx hy).mp q))]; rfl, h.1 e⟩
  | lt =>
    by_cases e : x < y
    · exact .inl ⟨decide_eq_true ((zlt32 hx hy).mpr e), h.1 e⟩
    · exact .inr ⟨decide_eq_false (fun q => e ((zlt32 hx hy).mp q)), h.2 (Int.not_lt.mp e)⟩
  | ge =>
    by_cases e : y ≤ x
    · exact .inl ⟨decide_eq_true ((zle32 hy hx).mpr e), h.1 e⟩
    · exact .inr ⟨decide_eq_false (fun q => e ((zle32 hy hx).mp q)), h.2 (Int.not_le.mp e)⟩
  | gt =>
    by_cases e : y < x
    · exact .inl ⟨decide_eq_true ((zlt32 hy hx).mpr e), h.1 e⟩
    · exact .inr ⟨decide_eq_false (fun q => e ((zlt32 hy hx).mp q)), h.2 (Int.not_lt.mp e)⟩
  | le =>
    by_cases e : x ≤ y
    · exact .inl ⟨decide_eq_true ((zle32 hx hy).mpr e), h.1 e⟩
    · exact .inr ⟨decide_eq_false (fun q => e ((zle32 hx hy).mp q)), h.2 (Int.not_le.mp e)⟩
theorem zlcond {c : ClassFile.Cond} {x y : Int} (hx : r64 x) (hy : r64 y) {A B : Prop} (h : zbr c x y A B) : (xcond c (lg_cmp (Int64.ofInt x) (Int64.ofInt y)) 0 = true ∧ A) ∨ (xcond c (lg_cmp (Int64.ofInt x) (Int64.ofInt y)) 0 = false ∧ B) := by
  cases c with
  | eq =>
    by_cases e : x = y
    · exact .inl ⟨decide_eq_true ((lg_cmp_eq _ _).mpr ((zeq64 hx hy).mpr e)), h.1 e⟩
    · exact .inr ⟨decide_eq_false (fun q => e ((zeq64 hx hy).mp ((lg_cmp_eq _ _).mp q))), h.2 e⟩
  | ne =>
    by_cases e : x = y
    · exact .inr ⟨by show (!(decide (_ = _))) = false; rw [decide_eq_true ((lg_cmp_eq _ _).mpr ((zeq64 hx hy).mpr e))]; rfl, h.2 e⟩
    · exact .inl ⟨by show (!(decide (_ = _))) = true; rw [decide_eq_false (fun q => e ((zeq64 hx hy).mp ((lg_cmp_eq _ _).mp q)))]; rfl, h.1 e⟩
  | lt =>
    by_cases e : x < y
    · exact .inl ⟨decide_eq_true ((lg_cmp_lt _ _).mpr ((zlt64 hx hy).mpr e)), h.1 e⟩
    · exact .inr ⟨decide_eq_false (fun q => e ((zlt64 hx hy).mp ((lg_cmp_lt _ _).mp q))), h.2 (Int.not_lt.mp e)⟩
  | ge =>
    by_cases e : y ≤ x
    · exact .inl ⟨decide_eq_true ((lg_cmp_ge _ _).mpr ((zle64 hy hx).mpr e)), h.1 e⟩
    · exact .inr ⟨decide_eq_false (fun q => e ((zle64 hy hx).mp ((lg_cmp_ge _ _).mp q))), h.2 (Int.not_le.mp e)⟩
  | gt =>
    by_cases e : y < x
    · exact .inl ⟨decide_eq_true ((lg_cmp_gt _ _).mpr ((zlt64 hy hx).mpr e)), h.1 e⟩
    · exact .inr ⟨decide_eq_false (fun q => e ((zlt64 hy hx).mp ((lg_cmp_gt _ _).mp q))), h.2 (Int.not_lt.mp e)⟩
  | le =>
    by_cases e : x ≤ y
    · exact .inl ⟨decide_eq_true ((lg_cmp_le _ _).mpr ((zle64 hx hy).mpr e)), h.1 e⟩
    · exact .inr ⟨decide_eq_false (fun q => e ((zle64 hx hy).mp ((lg_cmp_le _ _).mp q))), h.2 (Int.not_le.mp e)⟩
-- locals
theorem zget_set : ∀ (ls : ZL) (i j : Nat) (x : Option ZV) (v : ZV), zget (zset ls i x) j = some v → (j = i ∧ x = some v) ∨ (j ≠ i ∧ zget ls j = some v)
  | [], _, _, _, _, h => by cases h
  | a :: r, 0, 0, x, v, h => .inl ⟨rfl, h⟩
  | a :: r, 0, j + 1, x, v, h => .inr ⟨Nat.succ_ne_zero j, h⟩
  | a :: r, i + 1, 0, x, v, h => .inr ⟨(Nat.succ_ne_zero i).symm, h⟩
  | a :: r, i + 1, j + 1, x, v, h => by
    rcases zget_set r i j x v h with ⟨h1, h2⟩ | ⟨h1, h2⟩
    · exact .inl ⟨by rw [h1], h2⟩
    · exact .inr ⟨by omega, h2⟩
theorem zcat2 {v : ZV} (h : zcat v = 2) : ∃ z, v = Sum.inr (Sum.inl z) := by
  match v, h with
  | .inr (.inl z), _ => exact ⟨z, rfl⟩
  | .inl z, h => exact absurd (show (1 : Nat) = 2 from h) (by decide)
  | .inr (.inr o), h => exact absurd (show (1 : Nat) = 2 from h) (by decide)
theorem zget_kill {ls : ZL} {i j : Nat} {v : ZV} (h : zget (zkill ls i) j = some v) : zget ls j = some v ∧ ¬ (j + 1 = i ∧ zcat v = 2) := by
  match i, h with
  | 0, h => exact ⟨h, fun q => absurd q.1 (by omega)⟩
  | i + 1, h =>
    unfold zkill at h
    dsimp only at h
    split at h
    · rcases zget_set _ _ _ _ _ h with ⟨-, h2⟩ | ⟨h1, h2⟩
      · cases h2
      · exact ⟨h2, fun q => h1 (by omega)⟩
    · next hn =>
      refine ⟨h, fun q => ?_⟩
      have e : j = i := by omega
      subst e
      obtain ⟨z, hz⟩ := zcat2 q.2
      subst hz
      exact hn z h
def zlr (ls : ZL) (lv : List (Nat × Value)) : Prop := ∀ i v, zget ls i = some v → xlk lv i = some (zden v)
theorem zden_cat (v : ZV) : (zden v).category = zcat v := by
  match v with
  | .inl _ => rfl
  | .inr (.inl _) => rfl
  | .inr (.inr (some _)) => rfl
  | .inr (.inr none) => rfl
theorem zcats_eq (st : List ZV) : xcats (st.map zden) = zcats st := by
  unfold xcats zcats
  rw [List.map_map]
  congr 1
  exact List.map_congr_left fun v _ => zden_cat v
theorem xlk_filter {p : Nat × Value → Bool} {j : Nat} {x : Value} (hp : p (j, x) = true) : ∀ {lv : List (Nat × Value)}, xlk lv j = some x → xlk (lv.filter p) j = some x := by
  intro lv
  induction lv with
  | nil => intro h; cases h
  | cons q r ih =>
    intro h
    unfold xlk at h
    split at h
    · next hq =>
      cases h
      have e : q = (j, q.2) := by rw [← hq]
      rw [List.filter_cons_of_pos (by rw [e]; exact hp)]
      unfold xlk
      rw [if_pos hq]
    · next hq =>
      cases hb : p q with
      | true =>
        rw [List.filter_cons_of_pos hb]
        unfold xlk
        rw [if_neg hq]
        exact ih h
      | false =>
        rw [List.filter_cons_of_neg (by rw [hb]; decide)]
        exact ih h
theorem zlr_st1 {ls : ZL} {lv : List (Nat × Value)} (h : zlr ls lv) (i : Nat) (v : ZV) : zlr (zst1 ls i v) (xst1 lv i (zden v)) := by
  intro j u hu
  rcases zget_set _ _ _ _ _ hu with ⟨h1, h2⟩ | ⟨h1, h2⟩
  · cases h2
    unfold xst1 xlk
    rw [if_pos h1.symm]
  · obtain ⟨h3, h4⟩ := zget_kill h2
    unfold xst1 xlk
    rw [if_neg (fun q => h1 q.symm)]
    refine xlk_filter ?_ (h _ _ h3)
    rw [zden_cat]
    simp only [Bool.and_eq_true, Bool.not_eq_true', beq_eq_false_iff_ne, Bool.and_eq_false_iff]
    refine ⟨h1, ?_⟩
    by_cases e : j + 1 = i
    · exact .inr (fun q => h4 ⟨e, q⟩)
    · exact .inl e
theorem zlr_st2 {ls : ZL} {lv : List (Nat × Value)} (h : zlr ls lv) (i : Nat) (v : ZV) : zlr (zst2 ls i v) (xst2 lv i (zden v)) := by
  intro j u hu
  rcases zget_set _ _ _ _ _ hu with ⟨-, h2⟩ | ⟨h0, hu⟩
  · cases h2
  rcases zget_set _ _ _ _ _ hu with ⟨h1, h2⟩ | ⟨h1, h2⟩
  · cases h2
    unfold xst2 xlk
    rw [if_pos h1.symm]
  · obtain ⟨h3, h4⟩ := zget_kill h2
    unfold xst2 xlk
    rw [if_neg (fun q => h1 q.symm)]
    refine xlk_filter ?_ (h _ _ h3)
    rw [zden_cat]
    simp only [Bool.and_eq_true, Bool.not_eq_true', beq_eq_false_iff_ne, Bool.and_eq_false_iff]
    refine ⟨h1, h0, ?_⟩
    by_cases e : j + 1 = i
    · exact .inr (fun q => h4 ⟨e, q⟩)
    · exact .inl e
theorem zget_none : ∀ (n j : Nat), zget (znone n) j = none
  | 0, _ => rfl
  | n + 1, 0 => rfl
  | n + 1, j + 1 => zget_none n j
theorem zget_app : ∀ (l : ZL) (n j : Nat) (v : ZV), zget (l ++ znone n) j = some v → zget l j = some v
  | [], n, j, v, h => by
    have h1 : zget (znone n) j = some v := h
    rw [zget_none] at h1
    cases h1
  | a :: r, n, 0, v, h => h
  | a :: r, n, j + 1, v, h => zget_app r n j v h
theorem zget_args : ∀ (args : List ZV) (k j : Nat) (v : ZV), zget (zargs args) j = some v → xlk (lv_args k (args.map zden)) (k + j) = some (zden v)
  | [], _, _, _, h => by cases h
  | a :: r, k, j, v, h => by
    unfold zargs at h
    rw [List.map_cons]
    unfold lv_args xlk
    split at h
    · next hc =>
      rw [zden_cat, if_pos hc]
      match j, h with
      | 0, h => cases h; rw [if_pos (by omega)]
      | 1, h => cases h
      | j + 2, h =>
        rw [if_neg (show ¬ k = k + (j + 2) by omega), show k + (j + 2) = k + 2 + j by omega]
        exact zget_args r (k + 2) j v h
    · next hc =>
      rw [zden_cat, if_neg (fun q => hc q)]
      match j, h with
      | 0, h => cases h; rw [if_pos (by omega)]
      | j + 1, h =>
        rw [if_neg (show ¬ k = k + (j + 1) by omega), show k + (j + 1) = k + 1 + j by omega]
        exact zget_args r (k + 1) j v h
theorem zlr_lay (n : Nat) (args : List ZV) (k j : Nat) (v : ZV) (h : zget (zlay n args) j = some v) : xlk (lv_args k (args.map zden)) (k + j) = some (zden v) := zget_args args k j v (zget_app _ _ _ _ h)
-- plain instructions
theorem zb8 {n : Int} (h : (decide (-128 ≤ n) && decide (n < 128)) = true) : (Int8.ofInt n).toInt32 = Int32.ofInt n := by
  simp only [Bool.and_eq_true, decide_eq_true_eq] at h
  rw [← Int32.toInt_inj, Int8.toInt_toInt32, Int8.toInt_ofInt_of_le (by omega) (by omega), z32 (by omega)]
theorem zb16 {n : Int} (h : (decide (-32768 ≤ n) && decide (n < 32768)) = true) : (Int16.ofInt n).toInt32 = Int32.ofInt n := by
  simp only [Bool.and_eq_true, decide_eq_true_eq] at h
  rw [← Int32.toInt_inj, Int16.toInt_toInt32, Int16.toInt_ofInt_of_le (by omega) (by omega), z32 (by omega)]
theorem zforce_ok : ∀ (l : ZL) (k : ZL → Prop), zforce l k → k l
  | [], _, h => h
  | a :: r, k, h => zforce_ok r (fun r' => k (a :: r')) h
theorem zput1_ok : ∀ (l : ZL) (i : Nat) (x : Option ZV) (k : ZL → Prop), zput1 l i x k → k (zset l i x)
  | [], _, _, _, h => h
  | a :: r, 0, x, k, h => h
  | a :: r, i + 1, x, k, h => zput1_ok r i x (fun r => k (a :: r)) h
theorem zputk_ok : ∀ (l : ZL) (i : Nat) (x : Option ZV) (k : ZL → Prop), zputk l i x k → k (zset (zkill l i) i x)
  | [], i, _, k, h => by
    match i, h with
    | 0, h => exact h
    | i + 1, h => exact h
  | a :: r, 0, x, k, h => h
  | none :: r, 1, x, k, h => zput1_ok r 0 x (fun r => k (none :: r)) h
  | some (.inl z) :: r, 1, x, k, h => zput1_ok r 0 x (fun r => k (some (.inl z) :: r)) h
  | some (.inr (.inl z)) :: r, 1, x, k, h => zput1_ok r 0 x (fun r => k (none :: r)) h
  | some (.inr (.inr o)) :: r, 1, x, k, h => zput1_ok r 0 x (fun r => k (some (.inr (.inr o)) :: r)) h
  | a :: r, i + 2, x, k, h => by
    have h1 := zputk_ok r (i + 1) x (fun r => k (a :: r)) h
    have e : zset (zkill (a :: r) (i + 2)) (i + 2) x = a :: zset (zkill r (i + 1)) (i + 1) x := by
      unfold zkill
      show zset (match zget r i with
        | some (.inr (.inl _)) => a :: zset r i none
        | _ => a :: r) (i + 2) x = a :: zset (match zget r i with
        | some (.inr (.inl _)) => zset r i none
        | _ => r) (i + 1) x
      split <;> rfl
    rw [e]
    exact h1
