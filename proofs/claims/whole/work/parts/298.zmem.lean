/-! what each instruction asks holds of its run: conditions, memory, calls, ends; then all of a method -/
section ZWD
variable {h : Nat} {w : XRow} {pc a b : Nat} {c : Int}
theorem zo_div : zFok h w (pc, .idiv, a, b, c) zf_div := by
  intro d hd k g Q r fall hk hg ls st I L R S lv q hz hl
  unfold zf_div at q
  split at q
  · next y x st =>
    obtain ⟨⟨hx, hy, h0⟩, q⟩ := q
    refine X_s2 (st' := (zvi (x.tdiv y) :: st).map zden) ?_ (hk _ _ _ _ _ _ _ (q _ rfl (fun h0 => Int.tdiv_eq_ediv_of_nonneg h0)) hz hl)
    show (if Int32.ofInt y = 0 then none else some (Value.int (Int32.ofInt x / Int32.ofInt y) :: _)) = some (Value.int (Int32.ofInt _) :: _)
    rw [if_neg (zne32 hy h0), zdiv32 hx hy]
  · exact q.elim
theorem zo_rem : zFok h w (pc, .irem, a, b, c) zf_rem := by
  intro d hd k g Q r fall hk hg ls st I L R S lv q hz hl
  unfold zf_rem at q
  split at q
  · next y x st =>
    obtain ⟨⟨hx, hy, h0⟩, q⟩ := q
    refine X_s2 (st' := (zvi (x.tmod y) :: st).map zden) ?_ (hk _ _ _ _ _ _ _ (q _ rfl (fun h0 => Int.tmod_eq_emod_of_nonneg h0)) hz hl)
    show (if Int32.ofInt y = 0 then none else some (Value.int (Int32.ofInt x - Int32.ofInt x / Int32.ofInt y * Int32.ofInt y) :: _)) = some (Value.int (Int32.ofInt _) :: _)
    rw [if_neg (zne32 hy h0), zmod32 hx hy]
  · exact q.elim
theorem zo_ldiv : zFok h w (pc, .ldiv, a, b, c) zf_ldiv := by
  intro d hd k g Q r fall hk hg ls st I L R S lv q hz hl
  unfold zf_ldiv at q
  split at q
  · next y x st =>
    obtain ⟨x', y', ⟨⟨ex, hx⟩, ⟨ey, hy⟩, h0⟩, q⟩ := q
    refine X_s3 (st' := (zvl (x'.tdiv y') :: st).map zden) ?_ (hk _ _ _ _ _ _ _ (q _ rfl (fun h0 => Int.tdiv_eq_ediv_of_nonneg h0)) hz hl)
    show (if Int64.ofInt y = 0 then none else some (Value.long (Int64.ofInt x / Int64.ofInt y) :: _)) = some (Value.long (Int64.ofInt _) :: _)
    rw [← ex, ← ey, if_neg (zne64 hy h0), zdiv64 hx hy]
  · exact q.elim
theorem zo_lrem : zFok h w (pc, .lrem, a, b, c) zf_lrem := by
  intro d hd k g Q r fall hk hg ls st I L R S lv q hz hl
  unfold zf_lrem at q
  split at q
  · next y x st =>
    obtain ⟨x', y', ⟨⟨ex, hx⟩, ⟨ey, hy⟩, h0⟩, q⟩ := q
    refine X_s3 (st' := (zvl (x'.tmod y') :: st).map zden) ?_ (hk _ _ _ _ _ _ _ (q _ rfl (fun h0 => Int.tmod_eq_emod_of_nonneg h0)) hz hl)
    show (if Int64.ofInt y = 0 then none else some (Value.long (Int64.ofInt x - Int64.ofInt x / Int64.ofInt y * Int64.ofInt y) :: _)) = some (Value.long (Int64.ofInt _) :: _)
    rw [← ex, ← ey, if_neg (zne64 hy h0), zmod64 hx hy]
  · exact q.elim
theorem zo_i2l : zFok h w (pc, .i2l, a, b, c) zf_i2l := by
  intro d hd k g Q r fall hk hg ls st I L R S lv q hz hl
  unfold zf_i2l at q
  split at q
  · next x st =>
    refine X_s3 (st' := (zvl x :: st).map zden) ?_ (hk _ _ _ _ _ _ _ q.2 hz hl)
    show some (Value.long (Int32.ofInt x).toInt64 :: _) = some (Value.long (Int64.ofInt x) :: _)
    rw [zi2l q.1]
  · exact q.elim
theorem zlg {x y : Int} (hx : r64 x) (hy : r64 y) : let z := (lg_cmp (Int64.ofInt x) (Int64.ofInt y)).toInt; (z < 0 ↔ x < y) ∧ (0 < z ↔ y < x) ∧ r32 z := by
  dsimp only
  refine ⟨?_, ?_, ?_⟩
  · rw [← zlt64 hx hy, ← lg_cmp_lt, Int32.lt_iff_toInt_lt]
    exact Iff.rfl
  · rw [← zlt64 hy hx, ← lg_cmp_gt, Int32.lt_iff_toInt_lt]
    exact Iff.rfl
  · have h1 := Int32.le_toInt (lg_cmp (Int64.ofInt x) (Int64.ofInt y))
    have h2 := Int32.toInt_lt (lg_cmp (Int64.ofInt x) (Int64.ofInt y))
    omega
theorem zo_lcmp : zFok h w (pc, .lcmp, a, b, c) zf_lcmp := by
  intro d hd k g Q r fall hk hg ls st I L R S lv q hz hl
  unfold zf_lcmp at q
  split at q
  · next y x st =>
    obtain ⟨x', y', ⟨⟨ex, hx⟩, ey, hy⟩, q⟩ := q
    refine X_s3 (st' := (zvi (lg_cmp (Int64.ofInt x') (Int64.ofInt y')).toInt :: st).map zden) ?_ (hk _ _ _ _ _ _ _ (q _ (zlg hx hy)) hz hl)
    rw [ex, ey]
    show some (Value.int (lg_cmp (Int64.ofInt x) (Int64.ofInt y)) :: _) = some (Value.int (Int32.ofInt _) :: _)
    rw [zof32]
  · exact q.elim
theorem zo_dup : zFok h w (pc, .dup, a, b, c) zf_dup := by
  intro d hd k g Q r fall hk hg ls st I L R S lv q hz hl
  unfold zf_dup at q
  split at q
  · exact X_s4 rfl (hk _ _ _ _ _ _ _ q hz hl)
  · next o st =>
    refine X_s4 (st' := (zvo o :: zvo o :: st).map zden) ?_ (hk _ _ _ _ _ _ _ q hz hl)
    cases o <;> rfl
  · exact q.elim
theorem zo_pop : zFok h w (pc, .pop, a, b, c) zf_pop := by
  intro d hd k g Q r fall hk hg ls st I L R S lv q hz hl
  unfold zf_pop at q
  split at q
  · exact X_s4 rfl (hk _ _ _ _ _ _ _ q hz hl)
  · next o st =>
    refine X_s4 (st' := st.map zden) ?_ (hk _ _ _ _ _ _ _ q hz hl)
    cases o <;> rfl
  · exact q.elim
theorem zo_pop2 : zFok h w (pc, .pop2, a, b, c) zf_pop2 := by
  intro d hd k g Q r fall hk hg ls st I L R S lv q hz hl
  unfold zf_pop2 at q
  split at q
  · exact X_s4 rfl (hk _ _ _ _ _ _ _ q hz hl)
  · exact q.elim
theorem zo_dup2 : zFok h w (pc, .dup2, a, b, c) zf_dup2 := by
  intro d hd k g Q r fall hk hg ls st I L R S lv q hz hl
  unfold zf_dup2 at q
  split at q
  · exact X_s4 rfl (hk _ _ _ _ _ _ _ q hz hl)
  · next x o st =>
    refine X_s4 (st' := (zvi x :: zvo o :: zvi x :: zvo o :: st).map zden) ?_ (hk _ _ _ _ _ _ _ q hz hl)
    cases o <;> rfl
  · exact X_s4 rfl (hk _ _ _ _ _ _ _ q hz hl)
  · exact q.elim
theorem zo_if {cc : ClassFile.Cond} {o : Int} : zFok h w (pc, .ifCond cc o, a, b, c) (zf_if cc (zto pc o)) := by
  intro d hd k g Q r fall hk hg ls st I L R S lv q hz hl
  unfold zf_if at q
  split at q
  · next x st =>
    obtain ⟨hx, q⟩ := q
    rcases zcond hx (⟨by decide, by decide⟩ : r32 0) q with ⟨hc, q⟩ | ⟨hc, q⟩
    · exact zgo_br hg (by show some (xif (xcond cc (Int32.ofInt x) (Int32.ofInt 0)) _, _) = _; rw [hc]; rfl) q hz hl
    · exact X_brn (x := (pc, .ifCond cc o, a, b, c)) (by show some (xif (xcond cc (Int32.ofInt x) (Int32.ofInt 0)) _, _) = _; rw [hc]; rfl) (hk _ _ _ _ _ _ _ q hz hl)
  · exact q.elim
theorem zo_ic2 {cc : ClassFile.Cond} {o : Int} : zFok h w (pc, .if_icmp cc o, a, b, c) (zf_ic2 cc (zto pc o)) := by
  intro d hd k g Q r fall hk hg ls st I L R S lv q hz hl
  unfold zf_ic2 at q
  split at q
  · next y x st =>
    obtain ⟨⟨hx, hy⟩, q⟩ := q
    rcases zcond hx hy q with ⟨hc, q⟩ | ⟨hc, q⟩
    · exact zgo_br hg (by show some (xif (xcond cc (Int32.ofInt x) (Int32.ofInt y)) _, _) = _; rw [hc]; rfl) q hz hl
    · exact X_brn (x := (pc, .if_icmp cc o, a, b, c)) (by show some (xif (xcond cc (Int32.ofInt x) (Int32.ofInt y)) _, _) = _; rw [hc]; rfl) (hk _ _ _ _ _ _ _ q hz hl)
  · exact q.elim
theorem zo_nul {o : Int} : zFok h w (pc, .ifnull o, a, b, c) (zf_nul (zto pc o)) := by
  intro d hd k g Q r fall hk hg ls st I L R S lv q hz hl
  unfold zf_nul at q
  split at q
  · exact X_brn (x := (pc, .ifnull o, a, b, c)) rfl (hk _ _ _ _ _ _ _ q hz hl)
  · exact zgo_br hg rfl q hz hl
  · exact q.elim
theorem zo_nnl {o : Int} : zFok h w (pc, .ifnonnull o, a, b, c) (zf_nnl (zto pc o)) := by
  intro d hd k g Q r fall hk hg ls st I L R S lv q hz hl
  unfold zf_nnl at q
  split at q
  · exact X_brn (x := (pc, .ifnonnull o, a, b, c)) rfl (hk _ _ _ _ _ _ _ q hz hl)
  · exact zgo_br hg rfl q hz hl
  · exact q.elim
theorem zo_sw {df lo hi : Int} {os : Array Int} (e : (decide (0 ≤ (pc : Int) + df) && (decide (hi = lo + os.size - 1) && os.toList.all fun o => decide (0 ≤ (pc : Int) + o))) = true) : zFok h w (pc, .tableswitch df lo hi os, a, b, c) (zf_sw (zto pc df) lo hi (os.toList.map fun o => zto pc o)) := by
  intro d hd k g Q r fall hk hg ls st I L R S lv q hz hl
  simp only [Bool.and_eq_true, decide_eq_true_eq] at e
  obtain ⟨h0, hhi, hall⟩ := e
  unfold zf_sw at q
  split at q
  · next x st =>
    obtain ⟨hx, ht, hdf⟩ := q
    by_cases e : x < lo ∨ hi < x
    · refine zgo_br hg ?_ (hdf e) hz hl
      show (if (Int32.ofInt x).toInt < lo ∨ hi < (Int32.ofInt x).toInt then (if 0 ≤ (pc : Int) + df then some (some ((pc : Int) + df).toNat, st.map zden) else none) else _) = _
      rw [z32 hx, if_pos e, if_pos h0]
      rfl
    · have hn : (x - lo).toNat < os.size := by omega
      have ho : os[(x - lo).toNat]? = some os[(x - lo).toNat] := Array.getElem?_eq_getElem hn
      have h2 := zwt_at ht (x - lo).toNat _ (by rw [List.getElem?_map, Array.getElem?_toList, ho]; rfl) (by omega)
      have h1 := of_decide_eq_true (List.all_eq_true.mp hall _ (Array.mem_toList_iff.mpr (Array.getElem_mem hn)))
      refine zgo_br hg ?_ h2 hz hl
      show (if (Int32.ofInt x).toInt < lo ∨ hi < (Int32.ofInt x).toInt then _ else match os[((Int32.ofInt x).toInt - lo).toNat]? with | some o => if 0 ≤ (pc : Int) + o then some (some ((pc : Int) + o).toNat, st.map zden) else none | none => none) = _
      rw [z32 hx, if_neg e, ho]
      dsimp only
      rw [if_pos h1]
      rfl
  · exact q.elim
theorem zo_lk {df : Int} {ps : Array (Int × Int)} (e : (decide (0 ≤ (pc : Int) + df) && ps.toList.all fun q => decide (0 ≤ (pc : Int) + q.2)) = true) : zFok h w (pc, .lookupswitch df ps, a, b, c) (zf_lk (zto pc df) (ps.toList.map fun q => (q.1, zto pc q.2))) := by
  intro d hd k g Q r fall hk hg ls st I L R S lv q hz hl
  simp only [Bool.and_eq_true, decide_eq_true_eq] at e
  obtain ⟨h0, ha⟩ := e
  unfold zf_lk at q
  split at q
  · next x st =>
    obtain ⟨hx, q⟩ := q
    obtain ⟨h1, h2⟩ := zlks_at h0 ha q
    refine zgo_br hg ?_ h2 hz hl
    show (if 0 ≤ (pc : Int) + Op.lookupswitch.offset ps.toList df (Int32.ofInt x).toInt then some (some ((pc : Int) + Op.lookupswitch.offset ps.toList df (Int32.ofInt x).toInt).toNat, st.map zden) else none) = _
    rw [z32 hx, if_pos h1]
    rfl
  · exact q.elim
theorem zo_getI {i : Nat} (hb : b % 8 = 0 ∨ b % 8 = 3) : zFok h w (pc, .getfield i, a, b, c) (zf_getI a (b / 8)) := by
  intro d hd k g Q r fall hk hg ls st I L R S lv q hz hl
  unfold zf_getI at q
  split at q
  · next k st => exact X_get (m := zmem I L R S) (v := zden (zvi (I k (b / 8)))) q.1 (zxval (by omega) (by omega)) (hk _ _ _ _ _ _ _ (q.2 _ rfl (hz.1 _ _)) hz hl)
  · exact q.elim
theorem zo_getL {i : Nat} (hb : b % 8 = 1) : zFok h w (pc, .getfield i, a, b, c) (zf_getL a (b / 8)) := by
  intro d hd k g Q r fall hk hg ls st I L R S lv q hz hl
  unfold zf_getL at q
  split at q
  · next k st => exact X_get (m := zmem I L R S) (v := zden (zvl (L k (b / 8)))) q.1 (by rw [hb]; rfl) (hk _ _ _ _ _ _ _ (q.2 _ rfl (hz.2 _ _)) hz hl)
  · exact q.elim
theorem zo_getR {i : Nat} (hb : b % 8 = 2) : zFok h w (pc, .getfield i, a, b, c) (zf_getR a (b / 8)) := by
  intro d hd k g Q r fall hk hg ls st I L R S lv q hz hl
  unfold zf_getR at q
  split at q
  · next k st => exact X_get (m := zmem I L R S) (v := zden (zvo (R k (b / 8)))) q.1 (by rw [hb, zdeno]; rfl) (hk _ _ _ _ _ _ _ (q.2 _ rfl) hz hl)
  · exact q.elim
theorem zo_putI {i : Nat} (hb : b % 8 = 0) : zFok h w (pc, .putfield i, a, b, c) (zf_putI a (b / 8)) := by
  intro d hd k g Q r fall hk hg ls st I L R S lv q hz hl
  unfold zf_putI at q
  split at q
  · next z k st =>
    obtain ⟨q1, z', ⟨e1, e2⟩, q2⟩ := q
    exact X_put (m := zmem I L R S) (m' := zmem (xu I k (b / 8) z') L R S) (v := zden (zvi z)) q1 (by rw [hb, ← zm_I, e1]; rfl) (hk _ _ _ _ _ _ _ q2 (zok_I hz e2) hl)
  · exact q.elim
theorem zo_putL {i : Nat} (hb : b % 8 = 1) : zFok h w (pc, .putfield i, a, b, c) (zf_putL a (b / 8)) := by
  intro d hd k g Q r fall hk hg ls st I L R S lv q hz hl
  unfold zf_putL at q
  split at q
  · next z k st =>
    obtain ⟨q1, z', ⟨e1, e2⟩, q2⟩ := q
    exact X_put (m := zmem I L R S) (m' := zmem I (xu L k (b / 8) z') R S) (v := zden (zvl z)) q1 (by rw [hb, ← zm_L, e1]; rfl) (hk _ _ _ _ _ _ _ q2 (zok_L hz e2) hl)
  · exact q.elim
theorem zo_putR {i : Nat} (hb : b % 8 = 2) : zFok h w (pc, .putfield i, a, b, c) (zf_putR a (b / 8)) := by
  intro d hd k g Q r fall hk hg ls st I L R S lv q hz hl
  unfold zf_putR at q
  split at q
  · next o k st => exact X_put (m := zmem I L R S) (m' := zmem I L (xu R k (b / 8) o) S) (v := zden (zvo o)) q.1 (by rw [hb, ← zm_R]; cases o <;> rfl) (hk _ _ _ _ _ _ _ q.2 hz hl)
  · exact q.elim
theorem zo_putZ {i : Nat} (hb : b % 8 = 3) : zFok h w (pc, .putfield i, a, b, c) (zf_putZ a (b / 8)) := by
  intro d hd k g Q r fall hk hg ls st I L R S lv q hz hl
  unfold zf_putZ at q
  split at q
  · next z k st => exact X_put (m := zmem I L R S) (m' := zmem (xu I k (b / 8) z) L R S) (v := zden (zvi z)) q.1.1 (by rw [hb, ← zm_I]; exact if_pos (zbool q.1.2)) (hk _ _ _ _ _ _ _ q.2 (zok_I hz (by omega)) hl)
  · exact q.elim
theorem zo_aldI : zFok h w (pc, .iaload, a, b, c) (zf_aldI 100) := by
  intro d hd k g Q r fall hk hg ls st I L R S lv q hz hl
  unfold zf_aldI at q
  split at q
  · next j k st =>
    obtain ⟨⟨p1, p2, p3, p4, p5⟩, q⟩ := q
    obtain ⟨q1, q2⟩ := zxin p3 p4 p5
    refine X_s6 (m' := zmem I L R S) (st' := (zvi (I k j.toNat) :: st).map zden) rfl ?_ (hk _ _ _ _ _ _ _ (q _ rfl (hz.1 _ _)) hz hl)
    show (if k < S.2.1 ∧ (S.1 k).1 = 100 ∧ xin (Int32.ofInt j) (S.1 k).2 = true then some (Value.int (Int32.ofInt (I k (Int32.ofInt j).toNatClampNeg)) :: st.map zden, zmem I L R S) else none) = _
    rw [if_pos ⟨p1, p2, q1⟩, q2]
    rfl
  · exact q.elim
theorem zo_aldC : zFok h w (pc, .caload, a, b, c) (zf_aldI 104) := by
  intro d hd k g Q r fall hk hg ls st I L R S lv q hz hl
  unfold zf_aldI at q
  split at q
  · next j k st =>
    obtain ⟨⟨p1, p2, p3, p4, p5⟩, q⟩ := q
    obtain ⟨q1, q2⟩ := zxin p3 p4 p5
    refine X_s6 (m' := zmem I L R S) (st' := (zvi (I k j.toNat) :: st).map zden) rfl ?_ (hk _ _ _ _ _ _ _ (q _ rfl (hz.1 _ _)) hz hl)
    show (if k < S.2.1 ∧ (S.1 k).1 = 104 ∧ xin (Int32.ofInt j) (S.1 k).2 = true then some (Value.int (Int32.ofInt (I k (Int32.ofInt j).toNatClampNeg)) :: st.map zden, zmem I L R S) else none) = _
    rw [if_pos ⟨p1, p2, q1⟩, q2]
    rfl
  · exact q.elim
theorem zo_aldL : zFok h w (pc, .laload, a, b, c) zf_aldL := by
  intro d hd k g Q r fall hk hg ls st I L R S lv q hz hl
  unfold zf_aldL at q
  split at q
  · next j k st =>
    obtain ⟨⟨p1, p2, p3, p4, p5⟩, q⟩ := q
    obtain ⟨q1, q2⟩ := zxin p3 p4 p5
    refine X_s6 (m' := zmem I L R S) (st' := (zvl (L k j.toNat) :: st).map zden) rfl ?_ (hk _ _ _ _ _ _ _ (q _ rfl (hz.2 _ _)) hz hl)
    show (if k < S.2.1 ∧ (S.1 k).1 = 101 ∧ xin (Int32.ofInt j) (S.1 k).2 = true then some (Value.long (Int64.ofInt (L k (Int32.ofInt j).toNatClampNeg)) :: st.map zden, zmem I L R S) else none) = _
    rw [if_pos ⟨p1, p2, q1⟩, q2]
    rfl
  · exact q.elim
theorem zo_aldR : zFok h w (pc, .aaload, a, b, c) zf_aldR := by
  intro d hd k g Q r fall hk hg ls st I L R S lv q hz hl
  unfold zf_aldR at q
  split at q
  · next j k st =>
    obtain ⟨⟨p1, p2, p3, p4, p5⟩, q⟩ := q
    obtain ⟨q1, q2⟩ := zxin p3 p4 p5
    refine X_s6 (m' := zmem I L R S) (st' := (zvo (R k j.toNat) :: st).map zden) rfl ?_ (hk _ _ _ _ _ _ _ (q _ rfl) hz hl)
    show (if k < S.2.1 ∧ 110 ≤ (S.1 k).1 ∧ xin (Int32.ofInt j) (S.1 k).2 = true then some (va_rf (R k (Int32.ofInt j).toNatClampNeg) :: st.map zden, zmem I L R S) else none) = _
    rw [if_pos ⟨p1, by rw [p2]; decide, q1⟩, q2, List.map_cons, zdeno]
  · exact q.elim
theorem zo_aldB : zFok h w (pc, .baload, a, b, c) zf_aldB := by
  intro d hd k g Q r fall hk hg ls st I L R S lv q hz hl
  unfold zf_aldB at q
  split at q
  · next j k st =>
    obtain ⟨hp, q⟩ := q
    have hp' : k < S.2.1 ∧ ((S.1 k).1 = 102 ∨ (S.1 k).1 = 103) ∧ 0 ≤ j ∧ j < (S.1 k).2 ∧ j ≤ 2147483647 := by
      rcases hp with ⟨p1, p2, p3, p4, p5⟩ | ⟨p1, p2, p3, p4, p5⟩
      · exact ⟨p1, .inl p2, p3, p4, p5⟩
      · exact ⟨p1, .inr p2, p3, p4, p5⟩
    obtain ⟨p1, p2, p3, p4, p5⟩ := hp'
    obtain ⟨q1, q2⟩ := zxin p3 p4 p5
    refine X_s6 (m' := zmem I L R S) (st' := (zvi (I k j.toNat) :: st).map zden) rfl ?_ (hk _ _ _ _ _ _ _ (q _ rfl (hz.1 _ _)) hz hl)
    show (if k < S.2.1 ∧ ((S.1 k).1 = 102 ∨ (S.1 k).1 = 103) ∧ xin (Int32.ofInt j) (S.1 k).2 = true then some (Value.int (Int32.ofInt (I k (Int32.ofInt j).toNatClampNeg)) :: st.map zden, zmem I L R S) else none) = _
    rw [if_pos ⟨p1, p2, q1⟩, q2]
    rfl
  · exact q.elim
theorem zo_len : zFok h w (pc, .arraylength, a, b, c) zf_len := by
  intro d hd k g Q r fall hk hg ls st I L R S lv q hz hl
  unfold zf_len at q
  split at q
  · next k st =>
    obtain ⟨⟨p1, p2⟩, q⟩ := q
    refine X_s6 (m' := zmem I L R S) (st' := (zvi ((S.1 k).2 : Int) :: st).map zden) rfl ?_ (hk _ _ _ _ _ _ _ (q _ rfl) hz hl)
    show (if k < S.2.1 ∧ 100 ≤ (S.1 k).1 then some (Value.int (Int32.ofNat (S.1 k).2) :: st.map zden, zmem I L R S) else none) = some (Value.int (Int32.ofInt _) :: _, _)
    rw [if_pos ⟨p1, p2⟩, Int32.ofInt_eq_ofNat]
  · exact q.elim
theorem zo_astI : zFok h w (pc, .iastore, a, b, c) zf_astI := by
  intro d hd k g Q r fall hk hg ls st I L R S lv q hz hl
  unfold zf_astI at q
  split at q
  · next z j k st =>
    obtain ⟨⟨h0, ⟨p1, p2, p3, p4, p5⟩⟩, z', ⟨e1, h32⟩, q⟩ := q
    obtain ⟨q1, q2⟩ := zxin p3 p4 p5
    refine X_s7 (m' := zmem (xu I k j.toNat z') L R S) (st' := st.map zden) ?_ (hk _ _ _ _ _ _ _ q (zok_I hz h32) hl)
    show (if x0 ≤ k ∧ k < S.2.1 ∧ (S.1 k).1 = 100 ∧ xin (Int32.ofInt j) (S.1 k).2 = true then some (st.map zden, xwI (zmem I L R S) k (Int32.ofInt j).toNatClampNeg (Int32.ofInt z)) else none) = _
    rw [if_pos ⟨h0, p1, p2, q1⟩, q2, ← e1, zm_I]
  · exact q.elim
theorem zo_astL : zFok h w (pc, .lastore, a, b, c) zf_astL := by
  intro d hd k g Q r fall hk hg ls st I L R S lv q hz hl
  unfold zf_astL at q
  split at q
  · next z j k st =>
    obtain ⟨⟨h0, ⟨p1, p2, p3, p4, p5⟩⟩, z', ⟨e1, h32⟩, q⟩ := q
    obtain ⟨q1, q2⟩ := zxin p3 p4 p5
    refine X_s7 (m' := zmem I (xu L k j.toNat z') R S) (st' := st.map zden) ?_ (hk _ _ _ _ _ _ _ q (zok_L hz h32) hl)
    show (if x0 ≤ k ∧ k < S.2.1 ∧ (S.1 k).1 = 101 ∧ xin (Int32.ofInt j) (S.1 k).2 = true then some (st.map zden, xwL (zmem I L R S) k (Int32.ofInt j).toNatClampNeg (Int64.ofInt z)) else none) = _
    rw [if_pos ⟨h0, p1, p2, q1⟩, q2, ← e1, zm_L]
  · exact q.elim
theorem zo_astB : zFok h w (pc, .bastore, a, b, c) zf_astB := by
  intro d hd k g Q r fall hk hg ls st I L R S lv q hz hl
  unfold zf_astB at q
  split at q
  · next z j k st =>
    obtain ⟨⟨h0, hp⟩, q⟩ := q
    have hr : r32 z := by rcases hp with ⟨-, p⟩ | ⟨-, p⟩ <;> omega
    refine X_s7 (m' := zmem (xu I k j.toNat z) L R S) (st' := st.map zden) ?_ (hk _ _ _ _ _ _ _ q (zok_I hz hr) hl)
    show (if x0 ≤ k ∧ k < S.2.1 ∧ xin (Int32.ofInt j) (S.1 k).2 = true then (if (S.1 k).1 = 102 then some (st.map zden, xwI (zmem I L R S) k (Int32.ofInt j).toNatClampNeg (Int32.ofInt z).toInt8.toInt32) else if (S.1 k).1 = 103 then some (st.map zden, xwI (zmem I L R S) k (Int32.ofInt j).toNatClampNeg (Int32.ofInt z &&& 1)) else none) else none) = _
    rcases hp with ⟨⟨p1, p2, p3, p4, p5⟩, p6, p7⟩ | ⟨⟨p1, p2, p3, p4, p5⟩, p6⟩
    · obtain ⟨q1, q2⟩ := zxin p3 p4 p5
      rw [if_pos ⟨h0, p1, q1⟩, if_pos p2, q2, zbyte p6 p7, zm_I]
    · obtain ⟨q1, q2⟩ := zxin p3 p4 p5
      rw [if_pos ⟨h0, p1, q1⟩, if_neg (by rw [p2]; decide), if_pos p2, q2, zbool p6, zm_I]
  · exact q.elim
theorem zo_astC : zFok h w (pc, .castore, a, b, c) zf_astC := by
  intro d hd k g Q r fall hk hg ls st I L R S lv q hz hl
  unfold zf_astC at q
  split at q
  · next z j k st =>
    obtain ⟨⟨h0, ⟨p1, p2, p3, p4, p5⟩, h1, h2⟩, q⟩ := q
    obtain ⟨q1, q2⟩ := zxin p3 p4 p5
    refine X_s7 (m' := zmem (xu I k j.toNat z) L R S) (st' := st.map zden) ?_ (hk _ _ _ _ _ _ _ q (zok_I hz (by omega)) hl)
    show (if x0 ≤ k ∧ k < S.2.1 ∧ (S.1 k).1 = 104 ∧ xin (Int32.ofInt j) (S.1 k).2 = true then some (st.map zden, xwI (zmem I L R S) k (Int32.ofInt j).toNatClampNeg (Int32.ofInt z).toUInt32.toUInt16.toUInt32.toInt32) else none) = _
    rw [if_pos ⟨h0, p1, p2, q1⟩, q2, zchar h1 h2, zm_I]
  · exact q.elim
theorem zclamp {j : Int} (h0 : 0 ≤ j) (h2 : j ≤ 2147483647) : ¬ Int32.ofInt j < 0 ∧ (Int32.ofInt j).toNatClampNeg = j.toNat :=
  have h := zxin (n := j.toNat + 1) h0 (by omega) h2
  ⟨(xin_ok h.1).1, h.2⟩
theorem zcpy_map {α β : Type} (f : α → β) (g1 g2 : Nat → α) (sp dp n j : Nat) : va_cpy (fun j => f (g1 j)) (fun j => f (g2 j)) sp dp n j = f (va_cpy g1 g2 sp dp n j) := by
  unfold va_cpy
  split <;> rfl
theorem zcpF_map {α β : Type} (f : α → β) (F : Nat → Nat → α) (ks kd sp dp n : Nat) : xcpF (fun k j => f (F k j)) ks kd sp dp n = fun k j => f (xcpF F ks kd sp dp n k j) := by
  funext x j
  unfold xcpF
  by_cases hx : x = kd
  · rw [if_pos hx, if_pos hx]; exact zcpy_map f _ _ _ _ _ _
  · rw [if_neg hx, if_neg hx]
theorem zcpF_ok {α : Type} {p : α → Prop} {F : Nat → Nat → α} (h : ∀ k j, p (F k j)) (ks kd sp dp n : Nat) (k j : Nat) : p (xcpF F ks kd sp dp n k j) := by
  unfold xcpF
  by_cases hx : k = kd
  · rw [if_pos hx]
    unfold va_cpy
    split
    · exact h _ _
    · exact h _ _
  · rw [if_neg hx]
    exact h _ _
theorem xs12_eqI {idx ks kd : Nat} {n sp dp : Int32} {r : List Value} {m : XM} (hc : (x0 ≤ kd ∧ kd < xn m ∧ ks < xn m) ∧ (¬ n < 0 ∧ ¬ sp < 0 ∧ ¬ dp < 0) ∧ sp.toNatClampNeg + n.toNatClampNeg ≤ (xsh m ks).2 ∧ dp.toNatClampNeg + n.toNatClampNeg ≤ (xsh m kd).2 ∧ Nat.blt 8 (xcats r) = false) (ht : (xsh m ks).1 = 100 ∧ (xsh m kd).1 = 100) : xs12 (.invokestatic idx) 999 20 (.int n :: .int dp :: .ref kd :: .int sp :: .ref ks :: r) m = some (r, xcpI m ks kd sp.toNatClampNeg dp.toNatClampNeg n.toNatClampNeg) := by
  unfold xs12
  dsimp only
  rw [if_pos ⟨rfl, rfl⟩, if_pos hc, if_pos ht]
theorem xs12_eqL {idx ks kd : Nat} {n sp dp : Int32} {r : List Value} {m : XM} (hc : (x0 ≤ kd ∧ kd < xn m ∧ ks < xn m) ∧ (¬ n < 0 ∧ ¬ sp < 0 ∧ ¬ dp < 0) ∧ sp.toNatClampNeg + n.toNatClampNeg ≤ (xsh m ks).2 ∧ dp.toNatClampNeg + n.toNatClampNeg ≤ (xsh m kd).2 ∧ Nat.blt 8 (xcats r) = false) (ht : (xsh m ks).1 = 101 ∧ (xsh m kd).1 = 101) : xs12 (.invokestatic idx) 999 20 (.int n :: .int dp :: .ref kd :: .int sp :: .ref ks :: r) m = some (r, xcpL m ks kd sp.toNatClampNeg dp.toNatClampNeg n.toNatClampNeg) := by
  unfold xs12
  dsimp only
  rw [if_pos ⟨rfl, rfl⟩, if_pos hc, if_neg (by rintro ⟨-, e⟩; rw [ht.2] at e; cases e), if_pos ht]
theorem zo_copy {idx : Nat} : zFok h w (pc, .invokestatic idx, 999, 20, c) zf_copy := by
  intro d hd k g Q r fall hk hg ls st I L R S lv q hz hl
  unfold zf_copy at q
  split at q
  · next n dp kd sp ks st =>
    obtain ⟨⟨⟨h0, h1, h2, h3, h4⟩, ⟨p1, p2, p3, p4, p5⟩, p6, p7⟩, q⟩ := q
    obtain ⟨hr, q⟩ := zmr_ok q
    obtain ⟨n1, n2⟩ := zclamp (j := n) p1 (by omega)
    obtain ⟨s1, s2⟩ := zclamp (j := sp) p2 (by omega)
    obtain ⟨d1, d2⟩ := zclamp (j := dp) p3 (by omega)
    have hc : (x0 ≤ kd ∧ kd < S.2.1 ∧ ks < S.2.1) ∧ (¬ Int32.ofInt n < 0 ∧ ¬ Int32.ofInt sp < 0 ∧ ¬ Int32.ofInt dp < 0) ∧ (Int32.ofInt sp).toNatClampNeg + (Int32.ofInt n).toNatClampNeg ≤ (S.1 ks).2 ∧ (Int32.ofInt dp).toNatClampNeg + (Int32.ofInt n).toNatClampNeg ≤ (S.1 kd).2 ∧ Nat.blt 8 (xcats (st.map zden)) = false :=
      ⟨⟨h0, h1, h2⟩, ⟨n1, s1, d1⟩, by rw [s2, n2]; omega, by rw [d2, n2]; omega, hr⟩
    rcases h4 with h4 | h4
    · refine X_s12 (m' := zmem (xcpF I ks kd sp.toNat dp.toNat n.toNat) L R S) (st' := st.map zden) ?_ (hk _ _ _ _ _ _ _ (q.1 h4) ⟨zcpF_ok hz.1 _ _ _ _ _, hz.2⟩ hl)
      refine (xs12_eqI hc ⟨h3.trans h4, h4⟩).trans ?_
      rw [n2, s2, d2]
      refine congrArg some (Prod.ext rfl (Prod.ext ?_ rfl))
      exact zcpF_map Int32.ofInt I _ _ _ _ _
    · refine X_s12 (m' := zmem I (xcpF L ks kd sp.toNat dp.toNat n.toNat) R S) (st' := st.map zden) ?_ (hk _ _ _ _ _ _ _ (q.2 h4) ⟨hz.1, zcpF_ok hz.2 _ _ _ _ _⟩ hl)
      refine (xs12_eqL hc ⟨h3.trans h4, h4⟩).trans ?_
      rw [n2, s2, d2]
      refine congrArg some (Prod.ext rfl (Prod.ext rfl (Prod.ext ?_ rfl)))
      exact zcpF_map Int64.ofInt L _ _ _ _ _
  · exact q.elim
theorem zo_rcS {i : Instr} (hi : ∀ st, xs13 i a b st = some (.ref b :: st)) : zFok h w (pc, i, a, b, c) (zf_rc b) := by
  intro d hd k g Q r fall hk hg ls st I L R S lv q hz hl
  exact X_s13 (st' := (zvr b :: st).map zden) (hi _) (hk _ _ _ _ _ _ _ q hz hl)
theorem zo_slen {idx : Nat} : zFok h w (pc, .invokevirtual idx, 999, 1, c) zf_slen := by
  intro d hd k g Q r fall hk hg ls st I L R S lv q hz hl
  unfold zf_slen at q
  split at q
  · next t st =>
    obtain ⟨h0, q⟩ := q
    obtain ⟨hr, q⟩ := zmr_ok q
    refine X_s13 (st' := (zvi (tsb (t - 10)).length :: st).map zden) ?_ (hk _ _ _ _ _ _ _ q hz hl)
    show (if 999 = 999 then (if (10 ≤ t ∧ t < 39) ∧ Nat.blt 8 (xcats (st.map zden)) = false then some (Value.int (Int32.ofNat (tsb (t - 10)).length) :: st.map zden) else none) else none) = some (Value.int (Int32.ofInt _) :: _)
    rw [if_pos rfl, if_pos ⟨h0, hr⟩, Int32.ofInt_eq_ofNat]
  · exact q.elim
theorem zo_schar {idx : Nat} : zFok h w (pc, .invokevirtual idx, 999, 2, c) zf_schar := by
  intro d hd k g Q r fall hk hg ls st I L R S lv q hz hl
  unfold zf_schar at q
  split at q
  · next j t st =>
    obtain ⟨⟨h0, h1, h2⟩, q⟩ := q
    obtain ⟨hr, q⟩ := zmr_ok q
    have h3 := ts_n (t - 10) (by omega)
    obtain ⟨q1, q2⟩ := zxin h1 h2 (by omega)
    refine X_s13 (st' := (zvi ((tsb (t - 10)).getD j.toNat 0 : Nat) :: st).map zden) ?_ (hk _ _ _ _ _ _ _ q hz hl)
    show (if 999 = 999 then (if (10 ≤ t ∧ t < 39) ∧ xin (Int32.ofInt j) (tsb (t - 10)).length = true ∧ Nat.blt 8 (xcats (st.map zden)) = false then some (Value.int (tsf (t - 10) (Int32.ofInt j).toNatClampNeg) :: st.map zden) else none) else none) = some (Value.int (Int32.ofInt _) :: _)
    rw [if_pos rfl, if_pos ⟨h0, q1, hr⟩, Int32.ofInt_eq_ofNat, q2]
    rfl
  · exact q.elim
theorem zo_newA {t : ArrayType} : zFok h w (pc, .newarray t, a, b, c) (zf_newA a) := by
  intro d hd k g Q r fall hk hg ls st I L R S lv q hz hl
  unfold zf_newA at q
  split at q
  · next n st =>
    obtain ⟨⟨h0, h1⟩, q⟩ := q
    have hn : (Int32.ofInt n).toNatClampNeg = n.toNat := Int32.toNatClampNeg_ofInt_of_le (by omega) (by omega)
    refine X_s8 (m' := zmem (zz I S.2.1 0) (zz L S.2.1 0) (zz R S.2.1 none) (znS S a n.toNat)) (st' := (zvr S.2.1 :: st).map zden) ?_ (hk _ _ _ _ _ _ _ q (zok_N hz _) hl)
    show (if Int32.ofInt n < 0 then none else if Nat.blt (Int32.ofInt n).toNatClampNeg 1000000 = true then some (Value.ref S.2.1 :: st.map zden, xnew (zmem I L R S) a (Int32.ofInt n).toNatClampNeg) else none) = _
    rw [if_neg (fun q => absurd ((zlt0 (x := n) ⟨by omega, by omega⟩).mp q) (by omega)), hn, if_pos (Nat.blt_eq.mpr (by omega)), zm_N]
    rfl
  · exact q.elim
theorem zo_new {i : Nat} : zFok h w (pc, .new i, a, b, c) (zf_new a b) := by
  intro d hd k g Q r fall hk hg ls st I L R S lv q hz hl
  refine X_s8 (m' := zmem (zz I S.2.1 0) (zz L S.2.1 0) (zz R S.2.1 none) (znS S a b)) (st' := (zvr S.2.1 :: st).map zden) ?_ (hk _ _ _ _ _ _ _ q (zok_N hz _) hl)
  show some (Value.ref S.2.1 :: st.map zden, xnew (zmem I L R S) a b) = _
  rw [zm_N]
  rfl
theorem zo_inv {i : Nat} (ha : Nat.blt a 22 = true) : zFok h w (pc, .invokevirtual i, a, b, c) (zf_inv h a (b / 64) (b % 64)) := by
  intro d hd k g Q r fall hk hg ls st I L R S lv q hz hl
  unfold zf_inv at q
  split at q
  · next kk rest hdr =>
    obtain ⟨hat, q⟩ := q
    refine zcall_ok hk hd q hz hl (fun hc => ?_)
    show (match (st.map zden).drop (b % 64) with
      | .ref k :: r => if (x0 ≤ k ∧ k < S.2.1 ∧ (S.1 k).1 = a) ∧ a < 22 ∧ Nat.blt 8 (xcats r) = false then some (xP a (b / 64), Value.ref k :: ((st.map zden).take (b % 64)).reverse, r) else none
      | _ => none) = _
    rw [← List.map_drop, hdr]
    show (if (x0 ≤ kk ∧ kk < S.2.1 ∧ (S.1 kk).1 = a) ∧ a < 22 ∧ Nat.blt 8 (xcats (rest.map zden)) = false then _ else _) = _
    rw [if_pos ⟨hat, Nat.blt_eq.mp ha, hc⟩, ← List.map_take, ← List.map_reverse]
    rfl
  · exact q.elim
theorem zo_ins {i : Nat} (ha : Nat.blt a 22 = true) : zFok h w (pc, .invokespecial i, a, b, c) (zf_ins h a (b / 64) (b % 64)) := by
  intro d hd k g Q r fall hk hg ls st I L R S lv q hz hl
  unfold zf_ins at q
  split at q
  · next kk rest hdr =>
    refine zcall_ok hk hd q hz hl (fun hc => ?_)
    show (match (st.map zden).drop (b % 64) with
      | .ref k :: r => if a < 22 ∧ Nat.blt 8 (xcats r) = false then some (xP a (b / 64), Value.ref k :: ((st.map zden).take (b % 64)).reverse, r) else none
      | _ => none) = _
    rw [← List.map_drop, hdr]
    show (if a < 22 ∧ Nat.blt 8 (xcats (rest.map zden)) = false then _ else _) = _
    rw [if_pos ⟨Nat.blt_eq.mp ha, hc⟩, ← List.map_take, ← List.map_reverse]
    rfl
  · exact q.elim
theorem zo_ini {i : Nat} : zFok h w (pc, .invokespecial i, 999, b, c) zf_ini := by
  intro d hd k g Q r fall hk hg ls st I L R S lv q hz hl
  unfold zf_ini at q
  split at q
  · next kk st =>
    split at q
    · exact q.elim
    · next hc =>
      refine X_s8 (m' := zmem I L R S) (st' := st.map zden) ?_ (hk _ _ _ _ _ _ _ q hz hl)
      show (if 999 = 999 ∧ Nat.blt 8 (xcats (st.map zden)) = false then some (st.map zden, zmem I L R S) else none) = _
      rw [if_pos ⟨rfl, by rw [zcats_eq]; exact hc⟩]
  · exact q.elim
theorem zo_inst {i : Nat} (ha : Nat.blt a 22 = true) : zFok h w (pc, .invokestatic i, a, b, c) (zf_inst h a (b / 64) (b % 64)) := by
  intro d hd k g Q r fall hk hg ls st I L R S lv q hz hl
  unfold zf_inst at q
  split at q
  · next hle =>
    refine zcall_ok hk hd q hz hl (fun hc => ?_)
    show (if a < 22 ∧ Nat.ble (b % 64) (st.map zden).length = true ∧ Nat.blt 8 (xcats ((st.map zden).drop (b % 64))) = false then some (xP a (b / 64), ((st.map zden).take (b % 64)).reverse, (st.map zden).drop (b % 64)) else none) = _
    rw [← List.map_drop, if_pos ⟨Nat.blt_eq.mp ha, by rw [List.length_map]; exact hle, hc⟩, ← List.map_take, ← List.map_reverse]
  · exact q.elim
theorem zo_max {i : Nat} : zFok h w (pc, .invokestatic i, 999, 11, c) zf_max := by
  intro d hd k g Q r fall hk hg ls st I L R S lv q hz hl
  unfold zf_max at q
  split at q
  · next y x st =>
    obtain ⟨⟨hx, hy⟩, q⟩ := q
    obtain ⟨hc, q⟩ := zmr_ok q
    refine X_s10 (st' := (zvi (max x y) :: st).map zden) ?_ (hk _ _ _ _ _ _ _ q hz hl)
    show (if 999 = 999 then (if Nat.blt 8 (xcats (st.map zden)) = false then some (Value.int (if Int32.ofInt x < Int32.ofInt y then Int32.ofInt y else Int32.ofInt x) :: st.map zden) else none) else none) = some (Value.int (Int32.ofInt _) :: _)
    rw [if_pos rfl, if_pos hc]
    by_cases e : x < y
    · rw [if_pos ((zlt32 hx hy).mpr e), show max x y = y by omega]
    · rw [if_neg (fun q => e ((zlt32 hx hy).mp q)), show max x y = x by omega]
  · exact q.elim
theorem zo_min {i : Nat} : zFok h w (pc, .invokestatic i, 999, 12, c) zf_min := by
  intro d hd k g Q r fall hk hg ls st I L R S lv q hz hl
  unfold zf_min at q
  split at q
  · next y x st =>
    obtain ⟨⟨hx, hy⟩, q⟩ := q
    obtain ⟨hc, q⟩ := zmr_ok q
    refine X_s10 (st' := (zvi (min x y) :: st).map zden) ?_ (hk _ _ _ _ _ _ _ q hz hl)
    show (if 999 = 999 then (if Nat.blt 8 (xcats (st.map zden)) = false then some (Value.int (if Int32.ofInt y < Int32.ofInt x then Int32.ofInt y else Int32.ofInt x) :: st.map zden) else none) else none) = some (Value.int (Int32.ofInt _) :: _)
    rw [if_pos rfl, if_pos hc]
    by_cases e : y < x
    · rw [if_pos ((zlt32 hy hx).mpr e), show min x y = y by omega]
    · rw [if_neg (fun q => e ((zlt32 hy hx).mp q)), show min x y = x by omega]
  · exact q.elim
theorem zo_abs {i : Nat} : zFok h w (pc, .invokestatic i, 999, 13, c) zf_abs := by
  intro d hd k g Q r fall hk hg ls st I L R S lv q hz hl
  unfold zf_abs at q
  split at q
  · next x st =>
    obtain ⟨hx, q⟩ := q
    obtain ⟨hc, q⟩ := zmr_ok q
    refine X_s10 (st' := (zvi (if 0 ≤ x then x else -x) :: st).map zden) ?_ (hk _ _ _ _ _ _ _ (q _ ⟨fun q => if_pos q, fun q => if_neg (by omega)⟩) hz hl)
    show (if 999 = 999 then (if Nat.blt 8 (xcats (st.map zden)) = false then some (Value.int (if 0 ≤ Int32.ofInt x then Int32.ofInt x else 0 - Int32.ofInt x) :: st.map zden) else none) else none) = some (Value.int (Int32.ofInt _) :: _)
    rw [if_pos rfl, if_pos hc]
    by_cases e : 0 ≤ x
    · rw [if_pos ((z0le hx).mpr e), if_pos e]
    · rw [if_neg (fun q => e ((z0le hx).mp q)), if_neg e, Int32.ofInt_neg, Int32.zero_sub]
  · exact q.elim
theorem zo_lmax {i : Nat} : zFok h w (pc, .invokestatic i, 999, 14, c) zf_lmax := by
  intro d hd k g Q r fall hk hg ls st I L R S lv q hz hl
  unfold zf_lmax at q
  split at q
  · next y x st =>
    obtain ⟨⟨hx, hy⟩, q⟩ := q
    obtain ⟨hc, q⟩ := zmr_ok q
    refine X_s10 (st' := (zvl (max x y) :: st).map zden) ?_ (hk _ _ _ _ _ _ _ q hz hl)
    show (if 999 = 999 then (if Nat.blt 8 (xcats (st.map zden)) = false then some (Value.long (if Int64.ofInt y < Int64.ofInt x then Int64.ofInt x else Int64.ofInt y) :: st.map zden) else none) else none) = some (Value.long (Int64.ofInt _) :: _)
    rw [if_pos rfl, if_pos hc]
    by_cases e : y < x
    · rw [if_pos ((zlt64 hy hx).mpr e), show max x y = x by omega]
    · rw [if_neg (fun q => e ((zlt64 hy hx).mp q)), show max x y = y by omega]
  · exact q.elim
theorem zo_lmin {i : Nat} : zFok h w (pc, .invokestatic i, 999, 15, c) zf_lmin := by
  intro d hd k g Q r fall hk hg ls st I L R S lv q hz hl
  unfold zf_lmin at q
  split at q
  · next y x st =>
    obtain ⟨⟨hx, hy⟩, q⟩ := q
    obtain ⟨hc, q⟩ := zmr_ok q
    refine X_s10 (st' := (zvl (min x y) :: st).map zden) ?_ (hk _ _ _ _ _ _ _ q hz hl)
    show (if 999 = 999 then (if Nat.blt 8 (xcats (st.map zden)) = false then some (Value.long (if Int64.ofInt y < Int64.ofInt x then Int64.ofInt y else Int64.ofInt x) :: st.map zden) else none) else none) = some (Value.long (Int64.ofInt _) :: _)
    rw [if_pos rfl, if_pos hc]
    by_cases e : y < x
    · rw [if_pos ((zlt64 hy hx).mpr e), show min x y = y by omega]
    · rw [if_neg (fun q => e ((zlt64 hy hx).mp q)), show min x y = x by omega]
  · exact q.elim
theorem zo_labs {i : Nat} : zFok h w (pc, .invokestatic i, 999, 16, c) zf_labs := by
  intro d hd k g Q r fall hk hg ls st I L R S lv q hz hl
  unfold zf_labs at q
  split at q
  · next x st =>
    obtain ⟨hx, q⟩ := q
    obtain ⟨hc, q⟩ := zmr_ok q
    refine X_s10 (st' := (zvl (if 0 ≤ x then x else -x) :: st).map zden) ?_ (hk _ _ _ _ _ _ _ (q _ ⟨fun q => if_pos q, fun q => if_neg (by omega)⟩) hz hl)
    show (if 999 = 999 then (if Nat.blt 8 (xcats (st.map zden)) = false then some (Value.long (if 0 < Int64.ofInt x then Int64.ofInt x else -Int64.ofInt x) :: st.map zden) else none) else none) = some (Value.long (Int64.ofInt _) :: _)
    rw [if_pos rfl, if_pos hc]
    by_cases e : 0 < x
    · rw [if_pos ((z0lt hx).mpr e), if_pos (by omega)]
    · rw [if_neg (fun q => e ((z0lt hx).mp q))]
      by_cases e0 : x = 0
      · subst e0; rfl
      · rw [if_neg (by omega), Int64.ofInt_neg]
  · exact q.elim
theorem zo_ret (e : w.2.2.2.2.1 = none) : zFok h w (pc, .return_, a, b, c) zf_ret := by
  intro d hd k g Q r fall hk hg ls st I L R S lv q hz hl
  unfold zf_ret at q
  split at q
  · exact X_ret (v := Option.map zden (none)) (by rw [e]; exact rfl) ⟨none, I, L, R, S, rfl, rfl, hz, q⟩
  · exact q.elim
theorem zo_reti (e : w.2.2.2.2.1 = some .int) : zFok h w (pc, .ireturn, a, b, c) zf_reti := by
  intro d hd k g Q r fall hk hg ls st I L R S lv q hz hl
  unfold zf_reti at q
  split at q
  · exact X_ret (v := Option.map zden (some (zvi _))) (by rw [e]; exact rfl) ⟨some (zvi _), I, L, R, S, rfl, rfl, hz, q⟩
  · exact q.elim
theorem zo_retz (e : w.2.2.2.2.1 = some .boolean) : zFok h w (pc, .ireturn, a, b, c) zf_retz := by
  intro d hd k g Q r fall hk hg ls st I L R S lv q hz hl
  unfold zf_retz at q
  split at q
  · exact X_ret (v := Option.map zden (some (zvi _))) (by rw [e]; exact if_pos (zbool q.1)) ⟨some (zvi _), I, L, R, S, rfl, rfl, hz, q.2⟩
  · exact q.elim
theorem zo_retc (e : w.2.2.2.2.1 = some .char) : zFok h w (pc, .ireturn, a, b, c) zf_retc := by
  intro d hd k g Q r fall hk hg ls st I L R S lv q hz hl
  unfold zf_retc at q
  split at q
  · exact X_ret (v := Option.map zden (some (zvi _))) (by rw [e]; exact if_pos (zchar q.1.1 q.1.2)) ⟨some (zvi _), I, L, R, S, rfl, rfl, hz, q.2⟩
  · exact q.elim
theorem zo_retl (e : w.2.2.2.2.1 = some .long) : zFok h w (pc, .lreturn, a, b, c) zf_retl := by
  intro d hd k g Q r fall hk hg ls st I L R S lv q hz hl
  unfold zf_retl at q
  split at q
  · exact X_ret (v := Option.map zden (some (zvl _))) (by rw [e]; exact rfl) ⟨some (zvl _), I, L, R, S, rfl, rfl, hz, q⟩
  · exact q.elim
theorem zo_reta (e : (∃ C, w.2.2.2.2.1 = some (.object C)) ∨ ∃ t, w.2.2.2.2.1 = some (.array t)) : zFok h w (pc, .areturn, a, b, c) zf_reta := by
  intro d hd k g Q r fall hk hg ls st I L R S lv q hz hl
  unfold zf_reta at q
  split at q
  · rcases e with ⟨C, e⟩ | ⟨t, e⟩ <;> exact X_ret (v := Option.map zden (some (zvr _))) (by rw [e]; rfl) ⟨some (zvr _), I, L, R, S, rfl, rfl, hz, q⟩
  · exact q.elim
theorem zo_no {x : XI} : zFok h w x zf_no := fun _ _ _ _ _ _ _ _ _ _ _ _ _ _ _ _ q => q.elim
end ZWD
