/-! what the weakest preconditions say holds of a run: instructions with conditions, memory, calls, ends -/
theorem zdiv32 {x y : Int} (hx : r32 x) (hy : r32 y) : Int32.ofInt (x.tdiv y) = Int32.ofInt x / Int32.ofInt y := by
  rw [← Int32.toInt_inj, Int32.toInt_div, z32 hx, z32 hy, Int32.toInt_ofInt]
theorem zdiv64 {x y : Int} (hx : r64 x) (hy : r64 y) : Int64.ofInt (x.tdiv y) = Int64.ofInt x / Int64.ofInt y := by
  rw [← Int64.toInt_inj, Int64.toInt_div, z64 hx, z64 hy, Int64.toInt_ofInt]
theorem zmod32 {x y : Int} (hx : r32 x) (hy : r32 y) : Int32.ofInt (x.tmod y) = Int32.ofInt x - Int32.ofInt x / Int32.ofInt y * Int32.ofInt y := by
  rw [← zdiv32 hx hy, ← Int32.ofInt_mul, ← Int32.ofInt_sub, Int.tmod_def, Int.mul_comm]
theorem zmod64 {x y : Int} (hx : r64 x) (hy : r64 y) : Int64.ofInt (x.tmod y) = Int64.ofInt x - Int64.ofInt x / Int64.ofInt y * Int64.ofInt y := by
  rw [← zdiv64 hx hy, ← Int64.ofInt_mul, ← Int64.ofInt_sub, Int.tmod_def, Int.mul_comm]
theorem zne32 {y : Int} (hy : r32 y) (h : y ≠ 0) : Int32.ofInt y ≠ 0 := fun q => h ((zeq32 hy (by decide)).mp (q.trans rfl))
theorem zne64 {y : Int} (hy : r64 y) (h : y ≠ 0) : Int64.ofInt y ≠ 0 := fun q => h ((zeq64 hy (by decide)).mp (q.trans rfl))
theorem zlt0 {x : Int} (hx : r32 x) : Int32.ofInt x < 0 ↔ x < 0 := zlt32 (y := 0) hx (by decide)
theorem z0le {x : Int} (hx : r32 x) : 0 ≤ Int32.ofInt x ↔ 0 ≤ x := zle32 (x := 0) (by decide) hx
theorem z0lt {x : Int} (hx : r64 x) : 0 < Int64.ofInt x ↔ 0 < x := zlt64 (x := 0) (by decide) hx
theorem zi2l {x : Int} (h : r32 x) : (Int32.ofInt x).toInt64 = Int64.ofInt x := Int32.toInt64_ofInt (by show (-2147483648 : Int) ≤ x; omega) (by show x ≤ (2147483647 : Int); omega)
theorem zbool {z : Int} (h : z = 0 ∨ z = 1) : Int32.ofInt z &&& 1 = Int32.ofInt z := by rcases h with rfl | rfl <;> decide
theorem zchar {z : Int} (h0 : 0 ≤ z) (h1 : z < 65536) : (Int32.ofInt z).toUInt32.toUInt16.toUInt32.toInt32 = Int32.ofInt z := by
  obtain ⟨n, rfl⟩ := Int.eq_ofNat_of_zero_le h0
  rw [Int32.ofInt_eq_ofNat, Int32.toUInt32_ofNat', UInt32.toUInt32_toUInt16]
  have hm : UInt32.ofNat n % 65536 = UInt32.ofNat n := by
    apply UInt32.toNat.inj
    rw [UInt32.toNat_mod]
    have hn : (UInt32.ofNat n).toNat = n := UInt32.toNat_ofNat_of_lt (by show n < 4294967296; omega)
    rw [hn]
    exact Nat.mod_eq_of_lt (by show n < 65536; omega)
  rw [hm, UInt32.toInt32_ofNat']
theorem zbyte {z : Int} (h0 : -128 ≤ z) (h1 : z < 128) : (Int32.ofInt z).toInt8.toInt32 = Int32.ofInt z := by
  rw [Int32.toInt8_ofInt]
  exact zb8 (by simp only [Bool.and_eq_true, decide_eq_true_eq]; exact ⟨h0, h1⟩)
theorem zxin {j : Int} {n : Nat} (h0 : 0 ≤ j) (h1 : j < n) (h2 : j ≤ 2147483647) : xin (Int32.ofInt j) n = true ∧ (Int32.ofInt j).toNatClampNeg = j.toNat := by
  have hn : (Int32.ofInt j).toNatClampNeg = j.toNat := Int32.toNatClampNeg_ofInt_of_le (by omega) (by omega)
  refine ⟨?_, hn⟩
  unfold xin
  rw [hn]
  have h3 : decide (Int32.ofInt j < 0) = false := decide_eq_false (fun q => absurd ((zlt32 (y := 0) ⟨by omega, h2⟩ (by decide)).mp q) (by omega))
  rw [h3]
  simp only [Bool.not_false, Bool.true_and]
  exact Nat.blt_eq.mpr (by omega)
theorem zdeno (o : Option Nat) : zden (zvo o) = va_rf o := by cases o <;> rfl
-- memory
theorem zm_I (I L : ZI) (R : ZR) (S : ZS) (k j : Nat) (z : Int) : xwI (zmem I L R S) k j (Int32.ofInt z) = zmem (xu I k j z) L R S := by
  unfold xwI zmem
  congr 1
  funext a b
  show xu (fun k j => Int32.ofInt (I k j)) k j (Int32.ofInt z) a b = Int32.ofInt (xu I k j z a b)
  unfold xu
  split
  · split <;> rfl
  · rfl
theorem zm_L (I L : ZI) (R : ZR) (S : ZS) (k j : Nat) (z : Int) : xwL (zmem I L R S) k j (Int64.ofInt z) = zmem I (xu L k j z) R S := by
  unfold xwL zmem
  congr 2
  funext a b
  show xu (fun k j => Int64.ofInt (L k j)) k j (Int64.ofInt z) a b = Int64.ofInt (xu L k j z a b)
  unfold xu
  split
  · split <;> rfl
  · rfl
theorem zm_R (I L : ZI) (R : ZR) (S : ZS) (k j : Nat) (o : Option Nat) : xwR (zmem I L R S) k j o = zmem I L (xu R k j o) S := rfl
theorem zm_N (I L : ZI) (R : ZR) (S : ZS) (t len : Nat) : xnew (zmem I L R S) t len = zmem (zz I S.2.1 0) (zz L S.2.1 0) (zz R S.2.1 none) (znS S t len) := by
  have h1 : xz (fun k j => Int32.ofInt (I k j)) S.2.1 (0 : Int32) = fun k j => Int32.ofInt (zz I S.2.1 0 k j) := by
    funext a b
    unfold xz zz
    split <;> rfl
  have h2 : xz (fun k j => Int64.ofInt (L k j)) S.2.1 (0 : Int64) = fun k j => Int64.ofInt (zz L S.2.1 0 k j) := by
    funext a b
    unfold xz zz
    split <;> rfl
  show (xz (fun k j => Int32.ofInt (I k j)) S.2.1 0, xz (fun k j => Int64.ofInt (L k j)) S.2.1 0, _) = _
  rw [h1, h2]
  rfl
theorem zok_I {I L : ZI} (h : zok I L) {k j : Nat} {z : Int} (hz : r32 z) : zok (xu I k j z) L := ⟨fun a b => by
  unfold xu
  split
  · split
    · exact hz
    · exact h.1 a b
  · exact h.1 a b, h.2⟩
theorem zok_L {I L : ZI} (h : zok I L) {k j : Nat} {z : Int} (hz : r64 z) : zok I (xu L k j z) := ⟨h.1, fun a b => by
  unfold xu
  split
  · split
    · exact hz
    · exact h.2 a b
  · exact h.2 a b⟩
theorem zok_N {I L : ZI} (h : zok I L) (k : Nat) : zok (zz I k 0) (zz L k 0) := ⟨fun a b => by
  unfold zz
  split
  · exact ⟨by decide, by decide⟩
  · exact h.1 a b, fun a b => by
  unfold zz
  split
  · exact ⟨by decide, by decide⟩
  · exact h.2 a b⟩
-- switches
theorem zwt_at {pc : Nat} {x : Int} {G : Nat → Prop} : ∀ {l : List Int} {v : Int}, zwt pc x G v l → ∀ (n : Nat) (o : Int), l[n]? = some o → x = v + n → 0 ≤ (pc : Int) + o ∧ G ((pc : Int) + o).toNat
  | [], _, _, n, o, h, _ => by cases h
  | a :: r, v, h, 0, o, hn, hx => by
    cases hn
    exact ⟨h.1.1, h.1.2 (by omega)⟩
  | a :: r, v, h, n + 1, o, hn, hx => zwt_at h.2 n o hn (by omega)
theorem zlks_at {pc : Nat} {x d : Int} {G : Nat → Prop} (hd : 0 ≤ (pc : Int) + d) : ∀ {l : List (Int × Int)}, (l.all fun q => decide (0 ≤ (pc : Int) + q.2)) = true → zlks pc x d G l → 0 ≤ (pc : Int) + Op.lookupswitch.offset l d x ∧ G ((pc : Int) + Op.lookupswitch.offset l d x).toNat
  | [], _, h => ⟨hd, h⟩
  | (a, o) :: r, ha, h => by
    rw [Op.lookupswitch.offset_cons]
    simp only [List.all_cons, Bool.and_eq_true, decide_eq_true_eq] at ha
    split
    · next e => exact ⟨ha.1, h.1 e.symm⟩
    · next e => exact zlks_at hd ha.2 (h.2 fun q => e q.symm)
theorem zxval {m : XM} {kd k j : Nat} (h1 : kd = 1 → False) (h2 : kd = 2 → False) : xval m kd k j = .int (m.1 k j) := by
  unfold xval
  split
  · exact (h1 rfl).elim
  · exact (h2 rfl).elim
  · rfl
section ZWC
variable {h nL : Nat} {ret : Option FieldType} {bl : XB} {cuts : List Nat} {K : ZK} {Q : ZQ} {ih : ZH} {d : Nat} {w : XRow} {r : List XI} {fall : Nat} {ls : ZL} {st : List ZV} {I L : ZI} {R : ZR} {S : ZS} {lv : List (Nat × Value)} {pc a b : Nat} {c : Int}
def zKok (cuts : List Nat) (d : Nat) (w : XRow) (Q : ZQ) (K : ZK) : Prop := ∀ t, zhas cuts t = true → ∀ ls st I L R S lv, K t ls st I L R S → zok I L → zlr ls lv → Xr xP d w (xfind w.2.2.2.2.2 t).1 (xfind w.2.2.2.2.2 t).2 lv (st.map zden) (zmem I L R S) (zpost Q)
def zHok (d : Nat) (w : XRow) (Q : ZQ) (ih : ZH) : Prop := ∀ code fall ls st I L R S lv, ih code fall ls st I L R S → zok I L → zlr ls lv → Xr xP d w code fall lv (st.map zden) (zmem I L R S) (zpost Q)
theorem zgo_ok (hK : zKok cuts d w Q K) (IH : zHok d w Q ih) {t : Nat} (g : zgo w.2.2.2.2.2 cuts K ih t ls st I L R S) (hz : zok I L) (hl : zlr ls lv) : Xr xP d w (xfind w.2.2.2.2.2 t).1 (xfind w.2.2.2.2.2 t).2 lv (st.map zden) (zmem I L R S) (zpost Q) := by
  unfold zgo at g
  split at g
  · next e => exact hK _ e _ _ _ _ _ _ _ g hz hl
  · exact IH _ _ _ _ _ _ _ _ _ g hz hl
theorem zcall_ok (IH : zHok (d + 1) w Q ih) (hh : h ≤ d) {av rest : List ZV} {i : Instr} {st : List Value} (g : zcall h a b av rest ih r fall ls I L R S) (hz : zok I L) (hl : zlr ls lv)
    (hx : a < 22 → Nat.blt 8 (xcats (rest.map zden)) = false → xcall xP i a b st (zmem I L R S) = some (xP a (b / 64), av.map zden, rest.map zden)) : Xr xP (d + 1) w ((pc, i, a, b, c) :: r) fall lv st (zmem I L R S) (zpost Q) := by
  unfold zcall at g
  split at g
  · exact g.elim
  · next e =>
    split at g
    · next ea =>
      obtain ⟨T, hT, g⟩ := g
      obtain ⟨h1, h2⟩ := hT d hh av I L R S _ hz g
      refine X_call (x := (pc, i, a, b, c)) (hx (Nat.blt_eq.mp ea) (by rw [zcats_eq]; exact e)) h1 rfl (X_post h2 ?_)
      rintro v m' ⟨v', I', L', R', S', rfl, rfl, hz', g'⟩
      have h3 := IH _ _ _ _ _ _ _ _ _ g' hz' hl
      rw [List.map_append] at h3
      cases v' with
      | none => exact h3
      | some v' => exact h3
    · exact g.elim
theorem zgo_br (hK : zKok cuts d w Q K) (IH : zHok d w Q ih) {i : Instr} {t : Nat} {st0 : List Value} (hb : xbr pc i st0 = some (some t, st.map zden)) (g : zgo w.2.2.2.2.2 cuts K ih t ls st I L R S) (hz : zok I L) (hl : zlr ls lv) : Xr xP d w ((pc, i, a, b, c) :: r) fall lv st0 (zmem I L R S) (zpost Q) :=
  X_brt (x := (pc, i, a, b, c)) (t := t) hb rfl (zgo_ok hK IH g hz hl)
set_option maxHeartbeats 4000000 in
theorem zrest_ok (hh : h ≤ d) (hK : zKok cuts (d + 1) w Q K) (IH : zHok (d + 1) w Q ih) {i : Instr} (g : zrest h w.2.2.2.1 w.2.2.2.2.1 w.2.2.2.2.2 cuts K Q ih pc i a b r fall ls st I L R S) (hz : zok I L) (hl : zlr ls lv) :
    Xr xP (d + 1) w ((pc, i, a, b, c) :: r) fall lv (st.map zden) (zmem I L R S) (zpost Q) := by
  unfold zrest at g
  split at g
  -- idiv, irem, ldiv, lrem
  · split at g
    · next y x st =>
      obtain ⟨⟨hx, hy, h0⟩, k⟩ := g
      refine X_s2 (st' := (zvi (x.tdiv y) :: st).map zden) ?_ (IH _ _ _ _ _ _ _ _ _ (k _ rfl (fun h0 => Int.tdiv_eq_ediv_of_nonneg h0)) hz hl)
      show (if Int32.ofInt y = 0 then none else some (Value.int (Int32.ofInt x / Int32.ofInt y) :: _)) = some (Value.int (Int32.ofInt _) :: _)
      rw [if_neg (zne32 hy h0), zdiv32 hx hy]
    · exact g.elim
  · split at g
    · next y x st =>
      obtain ⟨⟨hx, hy, h0⟩, k⟩ := g
      refine X_s2 (st' := (zvi (x.tmod y) :: st).map zden) ?_ (IH _ _ _ _ _ _ _ _ _ (k _ rfl (fun h0 => Int.tmod_eq_emod_of_nonneg h0)) hz hl)
      show (if Int32.ofInt y = 0 then none else some (Value.int (Int32.ofInt x - Int32.ofInt x / Int32.ofInt y * Int32.ofInt y) :: _)) = some (Value.int (Int32.ofInt _) :: _)
      rw [if_neg (zne32 hy h0), zmod32 hx hy]
    · exact g.elim
  · split at g
    · next y x st =>
      obtain ⟨⟨hx, hy, h0⟩, k⟩ := g
      refine X_s3 (st' := (zvl (x.tdiv y) :: st).map zden) ?_ (IH _ _ _ _ _ _ _ _ _ (k _ rfl (fun h0 => Int.tdiv_eq_ediv_of_nonneg h0)) hz hl)
      show (if Int64.ofInt y = 0 then none else some (Value.long (Int64.ofInt x / Int64.ofInt y) :: _)) = some (Value.long (Int64.ofInt _) :: _)
      rw [if_neg (zne64 hy h0), zdiv64 hx hy]
    · exact g.elim
  · split at g
    · next y x st =>
      obtain ⟨⟨hx, hy, h0⟩, k⟩ := g
      refine X_s3 (st' := (zvl (x.tmod y) :: st).map zden) ?_ (IH _ _ _ _ _ _ _ _ _ (k _ rfl (fun h0 => Int.tmod_eq_emod_of_nonneg h0)) hz hl)
      show (if Int64.ofInt y = 0 then none else some (Value.long (Int64.ofInt x - Int64.ofInt x / Int64.ofInt y * Int64.ofInt y) :: _)) = some (Value.long (Int64.ofInt _) :: _)
      rw [if_neg (zne64 hy h0), zmod64 hx hy]
    · exact g.elim
  -- i2l, lcmp
  · split at g
    · next x st =>
      refine X_s3 (st' := (zvl x :: st).map zden) ?_ (IH _ _ _ _ _ _ _ _ _ g.2 hz hl)
      show some (Value.long (Int32.ofInt x).toInt64 :: _) = some (Value.long (Int64.ofInt x) :: _)
      rw [zi2l g.1]
    · exact g.elim
  · split at g
    · next y x st =>
      obtain ⟨⟨hx, hy⟩, g⟩ := g
      refine X_s3 (st' := Value.int (lg_cmp (Int64.ofInt x) (Int64.ofInt y)) :: st.map zden) rfl ?_
      split at g
      · next pc2 cc o z r2 =>
        obtain ⟨a2, b2, c2⟩ := z
        rcases zlcond hx hy g with ⟨hc, k⟩ | ⟨hc, k⟩
        · exact zgo_br hK IH (by show some (xif (xcond cc _ 0) _, _) = _; rw [hc]; rfl) k hz hl
        · exact X_brn (x := (pc2, .ifCond cc o, a2, b2, c2)) (by show some (xif (xcond cc _ 0) _, _) = _; rw [hc]; rfl) (IH _ _ _ _ _ _ _ _ _ k hz hl)
      · exact g.elim
    · exact g.elim
  -- goto, ifCond, if_icmp, ifnull, ifnonnull
  · exact zgo_br hK IH rfl g hz hl
  · rename_i cc o
    split at g
    · next x st =>
      obtain ⟨hx, g⟩ := g
      rcases zcond hx (⟨by decide, by decide⟩ : r32 0) g with ⟨hc, k⟩ | ⟨hc, k⟩
      · exact zgo_br hK IH (by show some (xif (xcond cc (Int32.ofInt x) (Int32.ofInt 0)) _, _) = _; rw [hc]; rfl) k hz hl
      · exact X_brn (x := (pc, .ifCond cc o, a, b, c)) (by show some (xif (xcond cc (Int32.ofInt x) (Int32.ofInt 0)) _, _) = _; rw [hc]; rfl) (IH _ _ _ _ _ _ _ _ _ k hz hl)
    · exact g.elim
  · rename_i cc o
    split at g
    · next y x st =>
      obtain ⟨⟨hx, hy⟩, g⟩ := g
      rcases zcond hx hy g with ⟨hc, k⟩ | ⟨hc, k⟩
      · exact zgo_br hK IH (by show some (xif (xcond cc (Int32.ofInt x) (Int32.ofInt y)) _, _) = _; rw [hc]; rfl) k hz hl
      · exact X_brn (x := (pc, .if_icmp cc o, a, b, c)) (by show some (xif (xcond cc (Int32.ofInt x) (Int32.ofInt y)) _, _) = _; rw [hc]; rfl) (IH _ _ _ _ _ _ _ _ _ k hz hl)
    · exact g.elim
  · rename_i o
    split at g
    · next q st => exact X_brn (x := (pc, .ifnull o, a, b, c)) rfl (IH _ _ _ _ _ _ _ _ _ g hz hl)
    · exact zgo_br hK IH rfl g hz hl
    · exact g.elim
  · rename_i o
    split at g
    · next st => exact X_brn (x := (pc, .ifnonnull o, a, b, c)) rfl (IH _ _ _ _ _ _ _ _ _ g hz hl)
    · exact zgo_br hK IH rfl g hz hl
    · exact g.elim
  -- switches
  · rename_i df lo hi os
    split at g
    · next x st =>
      obtain ⟨⟨hx, hhi⟩, ht, h0, hdf⟩ := g
      by_cases e : x < lo ∨ hi < x
      · refine zgo_br hK IH ?_ (hdf e) hz hl
        show (if (Int32.ofInt x).toInt < lo ∨ hi < (Int32.ofInt x).toInt then (if 0 ≤ (pc : Int) + df then some (some ((pc : Int) + df).toNat, st.map zden) else none) else _) = _
        rw [z32 hx, if_pos e, if_pos h0]
      · have hn : (x - lo).toNat < os.size := by omega
        have ho : os[(x - lo).toNat]? = some os[(x - lo).toNat] := Array.getElem?_eq_getElem hn
        obtain ⟨h1, h2⟩ := zwt_at ht (x - lo).toNat _ (by rw [Array.getElem?_toList]; exact ho) (by omega)
        refine zgo_br hK IH ?_ h2 hz hl
        show (if (Int32.ofInt x).toInt < lo ∨ hi < (Int32.ofInt x).toInt then _ else match os[((Int32.ofInt x).toInt - lo).toNat]? with | some o => if 0 ≤ (pc : Int) + o then some (some ((pc : Int) + o).toNat, st.map zden) else none | none => none) = _
        rw [z32 hx, if_neg e, ho]
        dsimp only
        rw [if_pos h1]
    · exact g.elim
  · rename_i df ps
    split at g
    · next x st =>
      obtain ⟨hx, h0, ha, g⟩ := g
      obtain ⟨h1, h2⟩ := zlks_at h0 ha g
      refine zgo_br hK IH ?_ h2 hz hl
      show (if 0 ≤ (pc : Int) + Op.lookupswitch.offset ps.toList df (Int32.ofInt x).toInt then some (some ((pc : Int) + Op.lookupswitch.offset ps.toList df (Int32.ofInt x).toInt).toNat, st.map zden) else none) = _
      rw [z32 hx, if_pos h1]
    · exact g.elim
  -- fields
  · split at g
    · next k st =>
      obtain ⟨hat, g⟩ := g
      split at g
      · next hb => exact X_get (m := zmem I L R S) (v := zden (zvl (L k (b / 8)))) hat (by rw [hb]; rfl) (IH _ _ _ _ _ _ _ _ _ (g _ rfl (hz.2 _ _)) hz hl)
      · next hb => exact X_get (m := zmem I L R S) (v := zden (zvo (R k (b / 8)))) hat (by rw [hb, zdeno]; rfl) (IH _ _ _ _ _ _ _ _ _ (g _ rfl) hz hl)
      · next hb1 hb2 => exact X_get (m := zmem I L R S) (v := zden (zvi (I k (b / 8)))) hat (zxval hb1 hb2) (IH _ _ _ _ _ _ _ _ _ (g _ rfl (hz.1 _ _)) hz hl)
    · exact g.elim
  · split at g
    · next hb =>
      split at g
      · next z k st =>
        refine X_put (m := zmem I L R S) (m' := zmem (xu I k (b / 8) z) L R S) (v := zden (zvi z)) g.1.1 (by rw [hb, ← zm_I]; rfl) (IH _ _ _ _ _ _ _ _ _ g.2 (zok_I hz g.1.2) hl)
      · exact g.elim
    · next hb =>
      split at g
      · next z k st =>
        refine X_put (m := zmem I L R S) (m' := zmem I (xu L k (b / 8) z) R S) (v := zden (zvl z)) g.1.1 (by rw [hb, ← zm_L]; rfl) (IH _ _ _ _ _ _ _ _ _ g.2 (zok_L hz g.1.2) hl)
      · exact g.elim
    · next hb =>
      split at g
      · next o k st =>
        refine X_put (m := zmem I L R S) (m' := zmem I L (xu R k (b / 8) o) S) (v := zden (zvo o)) g.1 (by rw [hb, ← zm_R]; cases o <;> rfl) (IH _ _ _ _ _ _ _ _ _ g.2 hz hl)
      · exact g.elim
    · next hb =>
      split at g
      · next z k st =>
        refine X_put (m := zmem I L R S) (m' := zmem (xu I k (b / 8) z) L R S) (v := zden (zvi z)) g.1.1 (by rw [hb, ← zm_I]; exact if_pos (zbool g.1.2)) (IH _ _ _ _ _ _ _ _ _ g.2 (zok_I hz (by omega)) hl)
      · exact g.elim
    · exact g.elim
  -- arrays
  · split at g
    · next j k st =>
      obtain ⟨⟨p1, p2, p3, p4, p5⟩, g⟩ := g
      obtain ⟨q1, q2⟩ := zxin p3 p4 p5
      refine X_s6 (m' := zmem I L R S) (st' := (zvi (I k j.toNat) :: st).map zden) rfl ?_ (IH _ _ _ _ _ _ _ _ _ (g _ rfl (hz.1 _ _)) hz hl)
      show (if k < S.2.1 ∧ (S.1 k).1 = 100 ∧ xin (Int32.ofInt j) (S.1 k).2 = true then some (Value.int (Int32.ofInt (I k (Int32.ofInt j).toNatClampNeg)) :: st.map zden, zmem I L R S) else none) = _
      rw [if_pos ⟨p1, p2, q1⟩, q2]
      rfl
    · exact g.elim
  · split at g
    · next j k st =>
      obtain ⟨⟨p1, p2, p3, p4, p5⟩, g⟩ := g
      obtain ⟨q1, q2⟩ := zxin p3 p4 p5
      refine X_s6 (m' := zmem I L R S) (st' := (zvl (L k j.toNat) :: st).map zden) rfl ?_ (IH _ _ _ _ _ _ _ _ _ (g _ rfl (hz.2 _ _)) hz hl)
      show (if k < S.2.1 ∧ (S.1 k).1 = 101 ∧ xin (Int32.ofInt j) (S.1 k).2 = true then some (Value.long (Int64.ofInt (L k (Int32.ofInt j).toNatClampNeg)) :: st.map zden, zmem I L R S) else none) = _
      rw [if_pos ⟨p1, p2, q1⟩, q2]
      rfl
    · exact g.elim
  · split at g
    · next j k st =>
      obtain ⟨hp, g⟩ := g
      have hp' : k < S.2.1 ∧ ((S.1 k).1 = 102 ∨ (S.1 k).1 = 103) ∧ 0 ≤ j ∧ j < (S.1 k).2 ∧ j ≤ 2147483647 := by
        rcases hp with ⟨p1, p2, p3, p4, p5⟩ | ⟨p1, p2, p3, p4, p5⟩
        · exact ⟨p1, .inl p2, p3, p4, p5⟩
        · exact ⟨p1, .inr p2, p3, p4, p5⟩
      obtain ⟨p1, p2, p3, p4, p5⟩ := hp'
      obtain ⟨q1, q2⟩ := zxin p3 p4 p5
      refine X_s6 (m' := zmem I L R S) (st' := (zvi (I k j.toNat) :: st).map zden) rfl ?_ (IH _ _ _ _ _ _ _ _ _ (g _ rfl (hz.1 _ _)) hz hl)
      show (if k < S.2.1 ∧ ((S.1 k).1 = 102 ∨ (S.1 k).1 = 103) ∧ xin (Int32.ofInt j) (S.1 k).2 = true then some (Value.int (Int32.ofInt (I k (Int32.ofInt j).toNatClampNeg)) :: st.map zden, zmem I L R S) else none) = _
      rw [if_pos ⟨p1, p2, q1⟩, q2]
      rfl
    · exact g.elim
  · split at g
    · next j k st =>
      obtain ⟨⟨p1, p2, p3, p4, p5⟩, g⟩ := g
      obtain ⟨q1, q2⟩ := zxin p3 p4 p5
      refine X_s6 (m' := zmem I L R S) (st' := (zvi (I k j.toNat) :: st).map zden) rfl ?_ (IH _ _ _ _ _ _ _ _ _ (g _ rfl (hz.1 _ _)) hz hl)
      show (if k < S.2.1 ∧ (S.1 k).1 = 104 ∧ xin (Int32.ofInt j) (S.1 k).2 = true then some (Value.int (Int32.ofInt (I k (Int32.ofInt j).toNatClampNeg)) :: st.map zden, zmem I L R S) else none) = _
      rw [if_pos ⟨p1, p2, q1⟩, q2]
      rfl
    · exact g.elim
  · split at g
    · next j k st =>
      obtain ⟨⟨p1, p2, p3, p4, p5⟩, g⟩ := g
      obtain ⟨q1, q2⟩ := zxin p3 p4 p5
      refine X_s6 (m' := zmem I L R S) (st' := (zvo (R k j.toNat) :: st).map zden) rfl ?_ (IH _ _ _ _ _ _ _ _ _ (g _ rfl) hz hl)
      show (if k < S.2.1 ∧ 110 ≤ (S.1 k).1 ∧ xin (Int32.ofInt j) (S.1 k).2 = true then some (va_rf (R k (Int32.ofInt j).toNatClampNeg) :: st.map zden, zmem I L R S) else none) = _
      rw [if_pos ⟨p1, by rw [p2]; decide, q1⟩, q2, List.map_cons, zdeno]
    · exact g.elim
  · split at g
    · next k st =>
      obtain ⟨⟨p1, p2⟩, g⟩ := g
      refine X_s6 (m' := zmem I L R S) (st' := (zvi ((S.1 k).2 : Int) :: st).map zden) rfl ?_ (IH _ _ _ _ _ _ _ _ _ (g _ rfl) hz hl)
      show (if k < S.2.1 ∧ 100 ≤ (S.1 k).1 then some (Value.int (Int32.ofNat (S.1 k).2) :: st.map zden, zmem I L R S) else none) = some (Value.int (Int32.ofInt _) :: _, _)
      rw [if_pos ⟨p1, p2⟩, Int32.ofInt_eq_ofNat]
    · exact g.elim
  · split at g
    · next z j k st =>
      obtain ⟨⟨h0, ⟨p1, p2, p3, p4, p5⟩, h32⟩, g⟩ := g
      obtain ⟨q1, q2⟩ := zxin p3 p4 p5
      refine X_s7 (m' := zmem (xu I k j.toNat z) L R S) (st' := st.map zden) ?_ (IH _ _ _ _ _ _ _ _ _ g (zok_I hz h32) hl)
      show (if x0 ≤ k ∧ k < S.2.1 ∧ (S.1 k).1 = 100 ∧ xin (Int32.ofInt j) (S.1 k).2 = true then some (st.map zden, xwI (zmem I L R S) k (Int32.ofInt j).toNatClampNeg (Int32.ofInt z)) else none) = _
      rw [if_pos ⟨h0, p1, p2, q1⟩, q2, zm_I]
    · exact g.elim
  · split at g
    · next z j k st =>
      obtain ⟨⟨h0, ⟨p1, p2, p3, p4, p5⟩, h32⟩, g⟩ := g
      obtain ⟨q1, q2⟩ := zxin p3 p4 p5
      refine X_s7 (m' := zmem I (xu L k j.toNat z) R S) (st' := st.map zden) ?_ (IH _ _ _ _ _ _ _ _ _ g (zok_L hz h32) hl)
      show (if x0 ≤ k ∧ k < S.2.1 ∧ (S.1 k).1 = 101 ∧ xin (Int32.ofInt j) (S.1 k).2 = true then some (st.map zden, xwL (zmem I L R S) k (Int32.ofInt j).toNatClampNeg (Int64.ofInt z)) else none) = _
      rw [if_pos ⟨h0, p1, p2, q1⟩, q2, zm_L]
    · exact g.elim
  · split at g
    · next z j k st =>
      obtain ⟨⟨h0, hp⟩, g⟩ := g
      have hr : r32 z := by rcases hp with ⟨-, p⟩ | ⟨-, p⟩ <;> omega
      refine X_s7 (m' := zmem (xu I k j.toNat z) L R S) (st' := st.map zden) ?_ (IH _ _ _ _ _ _ _ _ _ g (zok_I hz hr) hl)
      show (if x0 ≤ k ∧ k < S.2.1 ∧ xin (Int32.ofInt j) (S.1 k).2 = true then (if (S.1 k).1 = 102 then some (st.map zden, xwI (zmem I L R S) k (Int32.ofInt j).toNatClampNeg (Int32.ofInt z).toInt8.toInt32) else if (S.1 k).1 = 103 then some (st.map zden, xwI (zmem I L R S) k (Int32.ofInt j).toNatClampNeg (Int32.ofInt z &&& 1)) else none) else none) = _
      rcases hp with ⟨⟨p1, p2, p3, p4, p5⟩, p6, p7⟩ | ⟨⟨p1, p2, p3, p4, p5⟩, p6⟩
      · obtain ⟨q1, q2⟩ := zxin p3 p4 p5
        rw [if_pos ⟨h0, p1, q1⟩, if_pos p2, q2, zbyte p6 p7, zm_I]
      · obtain ⟨q1, q2⟩ := zxin p3 p4 p5
        rw [if_pos ⟨h0, p1, q1⟩, if_neg (by rw [p2]; decide), if_pos p2, q2, zbool p6, zm_I]
    · exact g.elim
  · split at g
    · next z j k st =>
      obtain ⟨⟨h0, ⟨p1, p2, p3, p4, p5⟩, h1, h2⟩, g⟩ := g
      obtain ⟨q1, q2⟩ := zxin p3 p4 p5
      refine X_s7 (m' := zmem (xu I k j.toNat z) L R S) (st' := st.map zden) ?_ (IH _ _ _ _ _ _ _ _ _ g (zok_I hz (by omega)) hl)
      show (if x0 ≤ k ∧ k < S.2.1 ∧ (S.1 k).1 = 104 ∧ xin (Int32.ofInt j) (S.1 k).2 = true then some (st.map zden, xwI (zmem I L R S) k (Int32.ofInt j).toNatClampNeg (Int32.ofInt z).toUInt32.toUInt16.toUInt32.toInt32) else none) = _
      rw [if_pos ⟨h0, p1, p2, q1⟩, q2, zchar h1 h2, zm_I]
    · exact g.elim
  -- new cells
  · split at g
    · next n st =>
      obtain ⟨⟨h0, h1⟩, g⟩ := g
      have hn : (Int32.ofInt n).toNatClampNeg = n.toNat := Int32.toNatClampNeg_ofInt_of_le (by omega) (by omega)
      refine X_s8 (m' := zmem (zz I S.2.1 0) (zz L S.2.1 0) (zz R S.2.1 none) (znS S a n.toNat)) (st' := (zvr S.2.1 :: st).map zden) ?_ (IH _ _ _ _ _ _ _ _ _ g (zok_N hz _) hl)
      show (if Int32.ofInt n < 0 then none else if Nat.blt (Int32.ofInt n).toNatClampNeg 1000000 = true then some (Value.ref S.2.1 :: st.map zden, xnew (zmem I L R S) a (Int32.ofInt n).toNatClampNeg) else none) = _
      rw [if_neg (fun q => absurd ((zlt0 (x := n) ⟨by omega, by omega⟩).mp q) (by omega)), hn, if_pos (Nat.blt_eq.mpr (by omega)), zm_N]
      rfl
    · exact g.elim
  · refine X_s8 (m' := zmem (zz I S.2.1 0) (zz L S.2.1 0) (zz R S.2.1 none) (znS S a b)) (st' := (zvr S.2.1 :: st).map zden) ?_ (IH _ _ _ _ _ _ _ _ _ g (zok_N hz _) hl)
    show some (Value.ref S.2.1 :: st.map zden, xnew (zmem I L R S) a b) = _
    rw [zm_N]
    rfl
  -- calls
  · split at g
    · next k rest hdr =>
      obtain ⟨hat, g⟩ := g
      refine zcall_ok IH hh g hz hl (fun ha hc => ?_)
      show (match (st.map zden).drop (b % 64) with
        | .ref k :: r => if (x0 ≤ k ∧ k < S.2.1 ∧ (S.1 k).1 = a) ∧ a < 22 ∧ Nat.blt 8 (xcats r) = false then some (xP a (b / 64), Value.ref k :: ((st.map zden).take (b % 64)).reverse, r) else none
        | _ => none) = _
      rw [← List.map_drop, hdr]
      show (if (x0 ≤ k ∧ k < S.2.1 ∧ (S.1 k).1 = a) ∧ a < 22 ∧ Nat.blt 8 (xcats (rest.map zden)) = false then _ else _) = _
      rw [if_pos ⟨hat, ha, hc⟩, ← List.map_take, ← List.map_reverse]
      rfl
    · exact g.elim
  · split at g
    · next he =>
      have ha : a = 999 := Nat.eq_of_beq_eq_true he
      subst ha
      split at g
      · next q st =>
        split at g
        · exact g.elim
        · next hc =>
          refine X_s8 (m' := zmem I L R S) (st' := st.map zden) ?_ (IH _ _ _ _ _ _ _ _ _ g hz hl)
          show (if 999 = 999 ∧ Nat.blt 8 (xcats (st.map zden)) = false then some (st.map zden, zmem I L R S) else none) = _
          rw [if_pos ⟨rfl, by rw [zcats_eq]; exact hc⟩]
      · exact g.elim
    · split at g
      · next k rest hdr =>
        refine zcall_ok IH hh g hz hl (fun ha hc => ?_)
        show (match (st.map zden).drop (b % 64) with
          | .ref k :: r => if a < 22 ∧ Nat.blt 8 (xcats r) = false then some (xP a (b / 64), Value.ref k :: ((st.map zden).take (b % 64)).reverse, r) else none
          | _ => none) = _
        rw [← List.map_drop, hdr]
        show (if a < 22 ∧ Nat.blt 8 (xcats (rest.map zden)) = false then _ else _) = _
        rw [if_pos ⟨ha, hc⟩, ← List.map_take, ← List.map_reverse]
        rfl
      · exact g.elim
  · split at g
    · next he =>
      have ha : a = 999 := Nat.eq_of_beq_eq_true he
      subst ha
      split at g
      · split at g
        · next y x st =>
          obtain ⟨⟨hx, hy⟩, g⟩ := g
          split at g
          · exact g.elim
          · next hc =>
            refine X_s10 (st' := (zvi (max x y) :: st).map zden) ?_ (IH _ _ _ _ _ _ _ _ _ g hz hl)
            show (if 999 = 999 then (if Nat.blt 8 (xcats (st.map zden)) = false then some (Value.int (if Int32.ofInt x < Int32.ofInt y then Int32.ofInt y else Int32.ofInt x) :: st.map zden) else none) else none) = some (Value.int (Int32.ofInt _) :: _)
            rw [if_pos rfl, if_pos (by rw [zcats_eq]; exact hc)]
            by_cases e : x < y
            · rw [if_pos ((zlt32 hx hy).mpr e), show max x y = y by omega]
            · rw [if_neg (fun q => e ((zlt32 hx hy).mp q)), show max x y = x by omega]
        · exact g.elim
      · split at g
        · next y x st =>
          obtain ⟨⟨hx, hy⟩, g⟩ := g
          split at g
          · exact g.elim
          · next hc =>
            refine X_s10 (st' := (zvi (min x y) :: st).map zden) ?_ (IH _ _ _ _ _ _ _ _ _ g hz hl)
            show (if 999 = 999 then (if Nat.blt 8 (xcats (st.map zden)) = false then some (Value.int (if Int32.ofInt y < Int32.ofInt x then Int32.ofInt y else Int32.ofInt x) :: st.map zden) else none) else none) = some (Value.int (Int32.ofInt _) :: _)
            rw [if_pos rfl, if_pos (by rw [zcats_eq]; exact hc)]
            by_cases e : y < x
            · rw [if_pos ((zlt32 hy hx).mpr e), show min x y = y by omega]
            · rw [if_neg (fun q => e ((zlt32 hy hx).mp q)), show min x y = x by omega]
        · exact g.elim
      · split at g
        · next x st =>
          obtain ⟨hx, g⟩ := g
          split at g
          · exact g.elim
          · next hc =>
            refine X_s10 (st' := (zvi (if 0 ≤ x then x else -x) :: st).map zden) ?_ (IH _ _ _ _ _ _ _ _ _ (g _ (fun q => if_pos q) (fun q => if_neg (by omega))) hz hl)
            show (if 999 = 999 then (if Nat.blt 8 (xcats (st.map zden)) = false then some (Value.int (if 0 ≤ Int32.ofInt x then Int32.ofInt x else 0 - Int32.ofInt x) :: st.map zden) else none) else none) = some (Value.int (Int32.ofInt _) :: _)
            rw [if_pos rfl, if_pos (by rw [zcats_eq]; exact hc)]
            by_cases e : 0 ≤ x
            · rw [if_pos ((z0le hx).mpr e), if_pos e]
            · rw [if_neg (fun q => e ((z0le hx).mp q)), if_neg e, Int32.ofInt_neg, Int32.zero_sub]
        · exact g.elim
      · split at g
        · next y x st =>
          obtain ⟨⟨hx, hy⟩, g⟩ := g
          split at g
          · exact g.elim
          · next hc =>
            refine X_s10 (st' := (zvl (max x y) :: st).map zden) ?_ (IH _ _ _ _ _ _ _ _ _ g hz hl)
            show (if 999 = 999 then (if Nat.blt 8 (xcats (st.map zden)) = false then some (Value.long (if Int64.ofInt y < Int64.ofInt x then Int64.ofInt x else Int64.ofInt y) :: st.map zden) else none) else none) = some (Value.long (Int64.ofInt _) :: _)
            rw [if_pos rfl, if_pos (by rw [zcats_eq]; exact hc)]
            by_cases e : y < x
            · rw [if_pos ((zlt64 hy hx).mpr e), show max x y = x by omega]
            · rw [if_neg (fun q => e ((zlt64 hy hx).mp q)), show max x y = y by omega]
        · exact g.elim
      · split at g
        · next y x st =>
          obtain ⟨⟨hx, hy⟩, g⟩ := g
          split at g
          · exact g.elim
          · next hc =>
            refine X_s10 (st' := (zvl (min x y) :: st).map zden) ?_ (IH _ _ _ _ _ _ _ _ _ g hz hl)
            show (if 999 = 999 then (if Nat.blt 8 (xcats (st.map zden)) = false then some (Value.long (if Int64.ofInt y < Int64.ofInt x then Int64.ofInt y else Int64.ofInt x) :: st.map zden) else none) else none) = some (Value.long (Int64.ofInt _) :: _)
            rw [if_pos rfl, if_pos (by rw [zcats_eq]; exact hc)]
            by_cases e : y < x
            · rw [if_pos ((zlt64 hy hx).mpr e), show min x y = y by omega]
            · rw [if_neg (fun q => e ((zlt64 hy hx).mp q)), show min x y = x by omega]
        · exact g.elim
      · split at g
        · next x st =>
          obtain ⟨hx, g⟩ := g
          split at g
          · exact g.elim
          · next hc =>
            refine X_s10 (st' := (zvl (if 0 ≤ x then x else -x) :: st).map zden) ?_ (IH _ _ _ _ _ _ _ _ _ (g _ (fun q => if_pos q) (fun q => if_neg (by omega))) hz hl)
            show (if 999 = 999 then (if Nat.blt 8 (xcats (st.map zden)) = false then some (Value.long (if 0 < Int64.ofInt x then Int64.ofInt x else -Int64.ofInt x) :: st.map zden) else none) else none) = some (Value.long (Int64.ofInt _) :: _)
            rw [if_pos rfl, if_pos (by rw [zcats_eq]; exact hc)]
            by_cases e : 0 < x
            · rw [if_pos ((z0lt hx).mpr e), if_pos (by omega)]
            · rw [if_neg (fun q => e ((z0lt hx).mp q))]
              by_cases e0 : x = 0
              · subst e0; rfl
              · rw [if_neg (by omega), Int64.ofInt_neg]
        · exact g.elim
      · exact g.elim
    · split at g
      · next hle =>
        refine zcall_ok IH hh g hz hl (fun ha hc => ?_)
        show (if a < 22 ∧ Nat.ble (b % 64) (st.map zden).length = true ∧ Nat.blt 8 (xcats ((st.map zden).drop (b % 64))) = false then some (xP a (b / 64), ((st.map zden).take (b % 64)).reverse, (st.map zden).drop (b % 64)) else none) = _
        rw [← List.map_drop, if_pos ⟨ha, by rw [List.length_map]; exact hle, hc⟩, ← List.map_take, ← List.map_reverse]
      · exact g.elim
  -- ends
  · split at g
    · split at g
      · next e => exact X_ret (v := none) (by rw [e]; rfl) ⟨none, I, L, R, S, rfl, rfl, hz, g⟩
      · exact g.elim
    · exact g.elim
  · split at g
    · next z =>
      split at g
      · next e => exact X_ret (v := some (zden (zvi z))) (by rw [e]; rfl) ⟨some (zvi z), I, L, R, S, rfl, rfl, hz, g⟩
      · next e => exact X_ret (v := some (zden (zvi z))) (by rw [e]; exact if_pos (zbool g.1)) ⟨some (zvi z), I, L, R, S, rfl, rfl, hz, g.2⟩
      · next e => exact X_ret (v := some (zden (zvi z))) (by rw [e]; exact if_pos (zchar g.1.1 g.1.2)) ⟨some (zvi z), I, L, R, S, rfl, rfl, hz, g.2⟩
      · exact g.elim
    · exact g.elim
  · split at g
    · next z =>
      split at g
      · next e => exact X_ret (v := some (zden (zvl z))) (by rw [e]; rfl) ⟨some (zvl z), I, L, R, S, rfl, rfl, hz, g⟩
      · exact g.elim
    · exact g.elim
  · split at g
    · next k =>
      split at g
      · next e => exact X_ret (v := some (zden (zvr k))) (by rw [e]; rfl) ⟨some (zvr k), I, L, R, S, rfl, rfl, hz, g⟩
      · next e => exact X_ret (v := some (zden (zvr k))) (by rw [e]; rfl) ⟨some (zvr k), I, L, R, S, rfl, rfl, hz, g⟩
      · exact g.elim
    · exact g.elim
  · exact g.elim
theorem zwp_s (f : Nat) : zwp h nL ret bl cuts K Q (f + 1) = zbody h nL ret bl cuts K Q (zwp h nL ret bl cuts K Q f) := rfl
theorem zwp_ok (hh : h ≤ d) (hK : zKok cuts (d + 1) w Q K) : ∀ f, zHok (d + 1) w Q (zwp h w.2.2.2.1 w.2.2.2.2.1 w.2.2.2.2.2 cuts K Q f) := by
  intro f
  induction f with
  | zero => intro code fall ls st I L R S lv g; exact g.elim
  | succ f IH =>
    intro code fall ls st I L R S lv g hz hl
    rw [zwp_s] at g
    unfold zbody at g
    split at g
    · exact X_go rfl (zgo_ok hK IH g hz hl)
    · next x r =>
      split at g
      · next q e => exact zps_ok rfl e hl (fun lv' hl' => IH _ _ _ _ _ _ _ _ _ g hz hl')
      · next e =>
        obtain ⟨pc, i, a, b, c⟩ := x
        exact zrest_ok hh hK IH g hz hl
/-- measures: three numbers, the first one is the most -/
def zlt3 (a b : Nat × Nat × Nat) : Prop := a.1 < b.1 ∨ (a.1 = b.1 ∧ (a.2.1 < b.2.1 ∨ (a.2.1 = b.2.1 ∧ a.2.2 < b.2.2)))
theorem zlt3_ind {C : Nat × Nat × Nat → Prop} (hC : ∀ a, (∀ b, zlt3 b a → C b) → C a) : ∀ a, C a := by
  have h1 : ∀ x y z, (∀ b : Nat × Nat × Nat, b.1 < x → C b) → (∀ b : Nat × Nat × Nat, b.1 = x → b.2.1 < y → C b) → C (x, y, z) := by
    intro x y z
    induction z using Nat.strongRecOn with
    | ind z ihz =>
      intro hx hy
      refine hC _ fun b hb => ?_
      rcases hb with hb | ⟨e1, hb | ⟨e2, hb⟩⟩
      · exact hx b hb
      · exact hy b e1 hb
      · obtain ⟨b1, b2, b3⟩ := b
        dsimp only at e1 e2 hb
        subst e1; subst e2
        exact ihz b3 hb hx hy
  have h2 : ∀ x y, (∀ b : Nat × Nat × Nat, b.1 < x → C b) → ∀ z, C (x, y, z) := by
    intro x y
    induction y using Nat.strongRecOn with
    | ind y ihy =>
      intro hx z
      refine h1 x y z hx fun b e1 hb => ?_
      obtain ⟨b1, b2, b3⟩ := b
      dsimp only at e1 hb
      subst e1
      exact ihy b2 hb hx b3
  have h3 : ∀ x y z, C (x, y, z) := by
    intro x
    induction x using Nat.strongRecOn with
    | ind x ihx =>
      intro y z
      exact h2 x y (fun b hb => ihx b.1 hb b.2.1 b.2.2) z
  intro a
  exact h3 a.1 a.2.1 a.2.2
def zall (l : List Nat) (G : Nat → Prop) : Prop := match l with
  | [] => True
  | a :: r => G a ∧ zall r G
theorem zall_of {G : Nat → Prop} : ∀ {l : List Nat}, zall l G → ∀ t, zhas l t = true → G t
  | [], _, t, h => by cases h
  | a :: r, g, t, h => by
    unfold zhas at h
    split at h
    · next e => rw [← Nat.eq_of_beq_eq_true e]; exact g.1
    · exact zall_of g.2 t h
/-- a method without loops -/
theorem ZSnd.of {c i : Nat} {T : ZT} (hT : ∀ args I L R S Q, zok I L → T args I L R S Q → Nat.ble (zcats args) (xP c i).2.2.2.1 = true ∧
    zwp h (xP c i).2.2.2.1 (xP c i).2.2.2.2.1 (xP c i).2.2.2.2.2 [] (fun _ _ _ _ _ _ _ => False) Q 100000 (xfind (xP c i).2.2.2.2.2 0).1 (xfind (xP c i).2.2.2.2.2 0).2 (zlay (xP c i).2.2.2.1 args) [] I L R S) : ZSnd (h + 1) c i T := by
  intro d hd args I L R S Q hz g
  obtain ⟨d, rfl⟩ : ∃ d', d = d' + 1 := ⟨d - 1, by omega⟩
  obtain ⟨h1, h2⟩ := hT args I L R S Q hz g
  refine ⟨by rw [zcats_eq]; exact h1, ?_⟩
  exact zwp_ok (show h ≤ d by omega) (fun _ ht => by cases ht) 100000 _ _ _ _ _ _ _ _ _ h2 hz (fun j v hv => by have := zlr_lay _ _ 0 j v hv; rwa [Nat.zero_add] at this)
/-- a method with loops: what is so at each of the places 'cuts', and a measure that falls from one to the next -/
theorem ZSnd.loops {c i : Nat} {T : ZT} (hT : ∀ args I L R S Q, zok I L → T args I L R S Q → ∃ (cuts : List Nat) (A : Nat × Nat × Nat → ZK), Nat.ble (zcats args) (xP c i).2.2.2.1 = true ∧
    zwp h (xP c i).2.2.2.1 (xP c i).2.2.2.2.1 (xP c i).2.2.2.2.2 cuts (fun t ls st I L R S => ∃ n, A n t ls st I L R S) Q 100000 (xfind (xP c i).2.2.2.2.2 0).1 (xfind (xP c i).2.2.2.2.2 0).2 (zlay (xP c i).2.2.2.1 args) [] I L R S ∧
    zall cuts (fun t => ∀ n ls st I L R S, zok I L → A n t ls st I L R S → zwp h (xP c i).2.2.2.1 (xP c i).2.2.2.2.1 (xP c i).2.2.2.2.2 cuts (fun t ls st I L R S => ∃ n', zlt3 n' n ∧ A n' t ls st I L R S) Q 100000 (xfind (xP c i).2.2.2.2.2 t).1 (xfind (xP c i).2.2.2.2.2 t).2 ls st I L R S)) : ZSnd (h + 1) c i T := by
  intro d hd args I L R S Q hz g
  obtain ⟨d, rfl⟩ : ∃ d', d = d' + 1 := ⟨d - 1, by omega⟩
  obtain ⟨cuts, A, h1, h2, h3⟩ := hT args I L R S Q hz g
  have h3 := zall_of h3
  have hloop : ∀ n, ∀ t, zhas cuts t = true → ∀ ls st I L R S lv, A n t ls st I L R S → zok I L → zlr ls lv → Xr xP (d + 1) (xP c i) (xfind (xP c i).2.2.2.2.2 t).1 (xfind (xP c i).2.2.2.2.2 t).2 lv (st.map zden) (zmem I L R S) (zpost Q) := by
    refine zlt3_ind fun n ihn t ht ls st I L R S lv hA hz hl => ?_
    have h4 := zwp_ok (show h ≤ d by omega) (fun t ht ls st I L R S lv q hz hl => by
      obtain ⟨n', q1, q2⟩ := q
      exact ihn n' q1 t ht ls st I L R S lv q2 hz hl) 100000 _ _ _ _ _ _ _ _ _ (h3 t ht n ls st I L R S hz hA) hz hl
    exact h4
  refine ⟨by rw [zcats_eq]; exact h1, ?_⟩
  exact zwp_ok (show h ≤ d by omega) (fun t ht ls st I L R S lv q hz hl => by
      obtain ⟨n', q2⟩ := q
      exact hloop n' t ht ls st I L R S lv q2 hz hl) 100000 _ _ _ _ _ _ _ _ _ h2 hz (fun j v hv => by have := zlr_lay _ _ 0 j v hv; rwa [Nat.zero_add] at this)
end ZWC
