/-! what the weakest preconditions say holds of a run: instructions with conditions, memory, calls, ends -/
theorem zdiv32 {x y : Int} (hx : r32 x) (hy : r32 y) : Int32.ofInt (x.tdiv y) = Int32.ofInt x / Int32.ofInt y := by
  rw [← Int32.toInt_inj, Int32.toInt_div, z32 hx, z32 hy, Int32.toInt_ofInt]
theorem zdiv64 {x y : Int} (hx : r64 x) (hy : r64 y) : Int64.ofInt (x.tdiv y) = Int64.ofInt x / Int64.ofInt y := by
  rw [← Int64.toInt_inj, Int64.toInt_div, z64 hx, z64 hy, Int64.toInt_ofInt]
theorem zmod32 {x y : Int} (hx : r32 x) (hy : r32 y) : Int32.ofInt (x.tmod y) = Int32.ofInt x - Int32.ofInt x / Int32.ofInt y * Int32.ofInt y := by
  rw [← zdiv32 hx hy, ← Int32.ofInt_mul, ← Int32.ofInt_sub, Int.tmod_def, Int.mul_comm]
theorem zmod64 {x y : Int} (hx : r64 x) (hy : r64 y) : Int64.ofInt (x.tmod y) = Int64.ofInt x - Int64.ofInt x / Int64.ofInt y * Int64.ofInt y := by
  rw [← zdiv64 hx hy, ← Int64.ofInt_mul, ← Int64.ofInt_sub, Int.tmod_def, Int.mul_comm]
theorem zne32 {y : Int} (hy : r32 y) (h : y ≠ 0) : Int32.ofInt y ≠ 0 := fun q => h ((zeq32 hy (by decide)).mp (q.trans rfl))
theorem zne64 {y : Int} (hy : r64 y) (h : y ≠ 0) : Int64.ofInt y ≠ 0 := fun q => h ((zeq64 hy (by decide)).mp (q.trans rfl))
theorem zlt0 {x : Int} (hx : r32 x) : Int32.ofInt x < 0 ↔ x < 0 := zlt32 (y := 0) hx (by decide)
theorem z0le {x : Int} (hx : r32 x) : 0 ≤ Int32.ofInt x ↔ 0 ≤ x := zle32 (x := 0) (by decide) hx
theorem z0lt {x : Int} (hx : r64 x) : 0 < Int64.ofInt x ↔ 0 < x := zlt64 (x := 0) (by decide) hx
theorem zi2l {x : Int} (h : r32 x) : (Int32.ofInt x).toInt64 = Int64.ofInt x := Int32.toInt64_ofInt (by show (-2147483648 : Int) ≤ x; omega) (by show x ≤ (2147483647 : Int); omega)
theorem zbool {z : Int} (h : z = 0 ∨ z = 1) : Int32.ofInt z &&& 1 = Int32.ofInt z := by rcases h with rfl | rfl <;> decide
theorem zchar {z : Int} (h0 : 0 ≤ z) (h1 : z < 65536) : (Int32.ofInt z).toUInt32.toUInt16.toUInt32.toInt32 = Int32.ofInt z := by
  obtain ⟨n, rfl⟩ := Int.eq_ofNat_of_zero_le h0
  rw [Int32.ofInt_eq_ofNat, Int32.toUInt32_ofNat', UInt32.toUInt32_toUInt16]
  have hm : UInt32.ofNat n % 65536 = UInt32.ofNat n := by
    apply UInt32.toNat.inj
    rw [UInt32.toNat_mod]
    have hn : (UInt32.ofNat n).toNat = n := UInt32.toNat_ofNat_of_lt (by show n < 4294967296; omega)
    rw [hn]
    exact Nat.mod_eq_of_lt (by show n < 65536; omega)
  rw [hm, UInt32.toInt32_ofNat']
theorem zbyte {z : Int} (h0 : -128 ≤ z) (h1 : z < 128) : (Int32.ofInt z).toInt8.toInt32 = Int32.ofInt z := by
  rw [Int32.toInt8_ofInt]
  exact zb8 (by simp only [Bool.and_eq_true, decide_eq_true_eq]; exact ⟨h0, h1⟩)
theorem zxin {j : Int} {n : Nat} (h0 : 0 ≤ j) (h1 : j < n) (h2 : j ≤ 2147483647) : xin (Int32.ofInt j) n = true ∧ (Int32.ofInt j).toNatClampNeg = j.toNat := by
  have hn : (Int32.ofInt j).toNatClampNeg = j.toNat := Int32.toNatClampNeg_ofInt_of_le (by omega) (by omega)
  refine ⟨?_, hn⟩
  unfold xin
  rw [hn]
  have h3 : decide (Int32.ofInt j < 0) = false := decide_eq_false (fun q => absurd ((zlt32 (y := 0) ⟨by omega, h2⟩ (by decide)).mp q) (by omega))
  rw [h3]
  simp only [Bool.not_false, Bool.true_and]
  exact Nat.blt_eq.mpr (by omega)
theorem zdeno (o : Option Nat) : zden (zvo o) = va_rf o := by cases o <;> rfl
-- memory
theorem zm_I (I L : ZI) (R : ZR) (S : ZS) (k j : Nat) (z : Int) : xwI (zmem I L R S) k j (Int32.ofInt z) = zmem (xu I k j z) L R S := by
  unfold xwI zmem
  congr 1
  funext a b
  show xu (fun k j => Int32.ofInt (I k j)) k j (Int32.ofInt z) a b = Int32.ofInt (xu I k j z a b)
  unfold xu
  split
  · split <;> rfl
  · rfl
theorem zm_L (I L : ZI) (R : ZR) (S : ZS) (k j : Nat) (z : Int) : xwL (zmem I L R S) k j (Int64.ofInt z) = zmem I (xu L k j z) R S := by
  unfold xwL zmem
  congr 2
  funext a b
  show xu (fun k j => Int64.ofInt (L k j)) k j (Int64.ofInt z) a b = Int64.ofInt (xu L k j z a b)
  unfold xu
  split
  · split <;> rfl
  · rfl
theorem zm_R (I L : ZI) (R : ZR) (S : ZS) (k j : Nat) (o : Option Nat) : xwR (zmem I L R S) k j o = zmem I L (xu R k j o) S := rfl
theorem zm_N (I L : ZI) (R : ZR) (S : ZS) (t len : Nat) : xnew (zmem I L R S) t len = zmem (zz I S.2.1 0) (zz L S.2.1 0) (zz R S.2.1 none) (znS S t len) := by
  have h1 : xz (fun k j => Int32.ofInt (I k j)) S.2.1 (0 : Int32) = fun k j => Int32.ofInt (zz I S.2.1 0 k j) := by
    funext a b
    unfold xz zz
    split <;> rfl
  have h2 : xz (fun k j => Int64.ofInt (L k j)) S.2.1 (0 : Int64) = fun k j => Int64.ofInt (zz L S.2.1 0 k j) := by
    funext a b
    unfold xz zz
    split <;> rfl
  show (xz (fun k j => Int32.ofInt (I k j)) S.2.1 0, xz (fun k j => Int64.ofInt (L k j)) S.2.1 0, _) = _
  rw [h1, h2]
  rfl
theorem zok_I {I L : ZI} (h : zok I L) {k j : Nat} {z : Int} (hz : r32 z) : zok (xu I k j z) L := ⟨fun a b => by
  unfold xu
  split
  · split
    · exact hz
    · exact h.1 a b
  · exact h.1 a b, h.2⟩
theorem zok_L {I L : ZI} (h : zok I L) {k j : Nat} {z : Int} (hz : r64 z) : zok I (xu L k j z) := ⟨h.1, fun a b => by
  unfold xu
  split
  · split
    · exact hz
    · exact h.2 a b
  · exact h.2 a b⟩
theorem zok_N {I L : ZI} (h : zok I L) (k : Nat) : zok (zz I k 0) (zz L k 0) := ⟨fun a b => by
  unfold zz
  split
  · exact ⟨by decide, by decide⟩
  · exact h.1 a b, fun a b => by
  unfold zz
  split
  · exact ⟨by decide, by decide⟩
  · exact h.2 a b⟩
-- switches
theorem zwt_at {x : Int} {G : Nat → Prop} : ∀ {l : List Nat} {v : Int}, zwt x G v l → ∀ (n : Nat) (t : Nat), l[n]? = some t → x = v + n → G t
  | [], _, _, n, o, h, _ => by cases h
  | a :: r, v, h, 0, o, hn, hx => by
    cases hn
    exact h.1 (by omega)
  | a :: r, v, h, n + 1, o, hn, hx => zwt_at h.2 n o hn (by omega)
theorem zlks_at {pc : Nat} {x d : Int} {G : Nat → Prop} (hd : 0 ≤ (pc : Int) + d) : ∀ {l : List (Int × Int)}, (l.all fun q => decide (0 ≤ (pc : Int) + q.2)) = true → zlks x (zto pc d) G (l.map fun q => (q.1, zto pc q.2)) → 0 ≤ (pc : Int) + Op.lookupswitch.offset l d x ∧ G (zto pc (Op.lookupswitch.offset l d x))
  | [], _, h => ⟨hd, h⟩
  | (a, o) :: r, ha, h => by
    rw [Op.lookupswitch.offset_cons]
    simp only [List.all_cons, Bool.and_eq_true, decide_eq_true_eq] at ha
    split
    · next e => exact ⟨ha.1, h.1 e.symm⟩
    · next e => exact zlks_at hd ha.2 (h.2 fun q => e q.symm)
theorem zxval {m : XM} {kd k j : Nat} (h1 : kd = 1 → False) (h2 : kd = 2 → False) : xval m kd k j = .int (m.1 k j) := by
  unfold xval
  split
  · exact (h1 rfl).elim
  · exact (h2 rfl).elim
  · rfl
section ZWC
variable {h : Nat} {k : ZC} {g : ZK} {Q : ZQ} {d : Nat} {w : XRow} {r : List XI} {fall : Nat} {ls : ZL} {st : List ZV} {I L : ZI} {R : ZR} {S : ZS} {lv : List (Nat × Value)} {pc a b : Nat} {c : Int}
/-- what goes on holds of the run; what is gone to does -/
def zKo (d : Nat) (w : XRow) (Q : ZQ) (r : List XI) (fall : Nat) (k : ZC) : Prop := ∀ ls st I L R S lv, k ls st I L R S → zok I L → zlr ls lv → Xr xP (d + 1) w r fall lv (st.map zden) (zmem I L R S) (zpost Q)
def zGo (d : Nat) (w : XRow) (Q : ZQ) (g : ZK) : Prop := ∀ t, zKo d w Q (xfind w.2.2.2.2.2 t).1 (xfind w.2.2.2.2.2 t).2 (g t)
def zFok (h : Nat) (w : XRow) (x : XI) (f : ZF) : Prop := ∀ d, h ≤ d → ∀ (k : ZC) (g : ZK) (Q : ZQ) (r : List XI) (fall : Nat), zKo d w Q r fall k → zGo d w Q g → zKo d w Q (x :: r) fall (f k g Q)
theorem zgo_br (hg : zGo d w Q g) {i : Instr} {t : Nat} {st0 : List Value} (hb : xbr pc i st0 = some (some t, st.map zden)) (q : g t ls st I L R S) (hz : zok I L) (hl : zlr ls lv) : Xr xP (d + 1) w ((pc, i, a, b, c) :: r) fall lv st0 (zmem I L R S) (zpost Q) :=
  X_brt (x := (pc, i, a, b, c)) (t := t) hb rfl (hg _ _ _ _ _ _ _ _ q hz hl)
theorem zcall_ok (hk : zKo d w Q r fall k) (hh : h ≤ d) {m : Nat} {av rest : List ZV} {i : Instr} {st0 : List Value} (q : zcall h a m av rest k ls st I L R S) (hz : zok I L) (hl : zlr ls lv)
    (hx : Nat.blt 8 (xcats (rest.map zden)) = false → xcall xP i a b st0 (zmem I L R S) = some (xP a m, av.map zden, rest.map zden)) : Xr xP (d + 1) w ((pc, i, a, b, c) :: r) fall lv st0 (zmem I L R S) (zpost Q) := by
  unfold zcall at q
  split at q
  · exact q.elim
  · next e =>
    obtain ⟨T, hT, q⟩ := q
    obtain ⟨h1, h2⟩ := hT d hh av I L R S _ hz q
    refine X_call (x := (pc, i, a, b, c)) (hx (by rw [zcats_eq]; exact e)) h1 rfl (X_post h2 ?_)
    rintro v m' ⟨v', I', L', R', S', rfl, rfl, hz', q'⟩
    have h3 := hk _ _ _ _ _ _ _ q' hz' hl
    rw [List.map_append] at h3
    cases v' with
    | none => exact h3
    | some v' => exact h3
theorem zck_ok {bb : Bool} {x : XI} {f : ZF} (hf : bb = true → zFok h w x f) : zFok h w x (zck bb f) := by
  cases bb with
  | true => exact hf rfl
  | false => exact fun _ _ _ _ _ _ _ _ _ _ _ _ _ _ _ _ q => q.elim
theorem zmr_ok {A : Prop} (q : zmroom st A) : Nat.blt 8 (xcats (st.map zden)) = false ∧ A := by
  unfold zmroom at q
  split at q
  · exact q.elim
  · next e => exact ⟨by rw [zcats_eq]; exact e, q⟩
-- plain instructions
theorem zo_push {i : Instr} {v : ZV} {f : ZF} (hf : ∀ k g Q ls st I L R S, f k g Q ls st I L R S = k ls (v :: st) I L R S) (hx : ∀ lv (st : List Value), xs1 i lv st = some (zden v :: st) ∨ xs9 i a c st = some (zden v :: st) ∨ xs11 i a st = some (zden v :: st)) : zFok h w (pc, i, a, b, c) f := by
  intro d hd k g Q r fall hk hg ls st I L R S lv q hz hl
  rw [hf] at q
  have h9 := hk _ _ _ _ _ _ _ q hz hl
  rcases hx lv (st.map zden) with hx | hx | hx
  · exact X_s1 hx h9
  · exact X_s9 hx h9
  · exact X_s11 hx h9
theorem zo_ild {i : Instr} {n : Nat} (hx : ∀ lv st (v : Int32), xlk lv n = some (.int v) → xs1 i lv st = some (.int v :: st)) : zFok h w (pc, i, a, b, c) (zf_ild n) := by
  intro d hd k g Q r fall hk hg ls st I L R S lv q hz hl
  unfold zf_ild at q
  split at q
  · next z e => exact X_s1 (hx _ _ _ (hl _ _ e)) (hk _ _ _ _ _ _ _ q hz hl)
  · exact q.elim
theorem zo_lld {i : Instr} {n : Nat} (hx : ∀ lv st (v : Int64), xlk lv n = some (.long v) → xs1 i lv st = some (.long v :: st)) : zFok h w (pc, i, a, b, c) (zf_lld n) := by
  intro d hd k g Q r fall hk hg ls st I L R S lv q hz hl
  unfold zf_lld at q
  split at q
  · next z e => exact X_s1 (hx _ _ _ (hl _ _ e)) (hk _ _ _ _ _ _ _ q hz hl)
  · exact q.elim
theorem zo_ald {i : Instr} {n : Nat} (hx : ∀ lv st (v : Nat), xlk lv n = some (.ref v) → xs1 i lv st = some (.ref v :: st)) : zFok h w (pc, i, a, b, c) (zf_ald n) := by
  intro d hd k g Q r fall hk hg ls st I L R S lv q hz hl
  unfold zf_ald at q
  split at q
  · next z e => exact X_s1 (hx _ _ _ (hl _ _ e)) (hk _ _ _ _ _ _ _ q hz hl)
  · exact q.elim
theorem zo_ist {i : Instr} {n : Nat} (hx : ∀ lv st (v : Int32), xs5 w.2.2.2.1 i lv (.int v :: st) = some (xst1 lv n (.int v), st)) : zFok h w (pc, i, a, b, c) (zf_ist n) := by
  intro d hd k g Q r fall hk hg ls st I L R S lv q hz hl
  unfold zf_ist at q
  split at q
  · next z st => exact X_s5 (hx _ _ _) (hk _ _ _ _ _ _ _ (zputk_ok _ _ _ _ q) hz (zlr_st1 hl n (zvi z)))
  · exact q.elim
theorem zo_lst {i : Instr} {n : Nat} (hx : ∀ lv st (v : Int64), xs5 w.2.2.2.1 i lv (.long v :: st) = some (xst2 lv n (.long v), st)) : zFok h w (pc, i, a, b, c) (zf_lst n) := by
  intro d hd k g Q r fall hk hg ls st I L R S lv q hz hl
  unfold zf_lst at q
  split at q
  · next z st => exact X_s5 (hx _ _ _) (hk _ _ _ _ _ _ _ (zput1_ok _ _ _ _ (zputk_ok _ _ _ _ q)) hz (zlr_st2 hl n (zvl z)))
  · exact q.elim
theorem zo_ast {i : Instr} {n : Nat} (hx : ∀ lv st (v : Nat), xs5 w.2.2.2.1 i lv (.ref v :: st) = some (xst1 lv n (.ref v), st)) : zFok h w (pc, i, a, b, c) (zf_ast n) := by
  intro d hd k g Q r fall hk hg ls st I L R S lv q hz hl
  unfold zf_ast at q
  split at q
  · next z st => exact X_s5 (hx _ _ _) (hk _ _ _ _ _ _ _ (zputk_ok _ _ _ _ q) hz (zlr_st1 hl n (zvr z)))
  · exact q.elim
theorem zo_inc {n : Nat} {m : Int} (e : Nat.blt n w.2.2.2.1 = true) : zFok h w (pc, .iinc n m, a, b, c) (zf_inc n m) := by
  intro d hd k g Q r fall hk hg ls st I L R S lv q hz hl
  unfold zf_inc at q
  split at q
  · next z hv =>
    refine X_s5 (lv' := xst1 lv n (zden (zvi (z + m)))) (st' := st.map zden) ?_ (hk _ _ _ _ _ _ _ (zputk_ok _ _ _ _ q) hz (zlr_st1 hl n (zvi (z + m))))
    unfold xs5
    dsimp only
    rw [hl _ _ hv]
    dsimp only [zden]
    rw [if_pos (Nat.blt_eq.mp e), Int32.ofInt_add]
  · exact q.elim
theorem zo_i2 {i : Instr} {f : ZF} {o : Int → Int → Int} (hf : ∀ k g Q ls y x st I L R S, f k g Q ls (Sum.inl y :: Sum.inl x :: st) I L R S → k ls (zvi (o x y) :: st) I L R S) (hn : ∀ k g Q ls st I L R S, f k g Q ls st I L R S → ∃ y x st', st = Sum.inl y :: Sum.inl x :: st') (hx : ∀ x y st, xs2 i (.int (Int32.ofInt y) :: .int (Int32.ofInt x) :: st) = some (.int (Int32.ofInt (o x y)) :: st)) : zFok h w (pc, i, a, b, c) f := by
  intro d hd k g Q r fall hk hg ls st I L R S lv q hz hl
  obtain ⟨y, x, st', rfl⟩ := hn _ _ _ _ _ _ _ _ _ q
  exact X_s2 (hx x y _) (hk _ _ _ _ _ _ _ (hf _ _ _ _ _ _ _ _ _ _ _ q) hz hl)
theorem zo_l2 {i : Instr} {f : ZF} {o : Int → Int → Int} (hf : ∀ k g Q ls y x st I L R S, f k g Q ls (Sum.inr (Sum.inl y) :: Sum.inr (Sum.inl x) :: st) I L R S → k ls (zvl (o x y) :: st) I L R S) (hn : ∀ k g Q ls st I L R S, f k g Q ls st I L R S → ∃ y x st', st = Sum.inr (Sum.inl y) :: Sum.inr (Sum.inl x) :: st') (hx : ∀ x y st, xs3 i (.long (Int64.ofInt y) :: .long (Int64.ofInt x) :: st) = some (.long (Int64.ofInt (o x y)) :: st)) : zFok h w (pc, i, a, b, c) f := by
  intro d hd k g Q r fall hk hg ls st I L R S lv q hz hl
  obtain ⟨y, x, st', rfl⟩ := hn _ _ _ _ _ _ _ _ _ q
  exact X_s3 (hx x y _) (hk _ _ _ _ _ _ _ (hf _ _ _ _ _ _ _ _ _ _ _ q) hz hl)
theorem zo_lsh {i : Instr} {o : Int → Int → Int} (hx : ∀ x y st, xs3 i (.int (Int32.ofInt y) :: .long (Int64.ofInt x) :: st) = some (.long (Int64.ofInt (o x y)) :: st)) : zFok h w (pc, i, a, b, c) (zf_lsh o) := by
  intro d hd k g Q r fall hk hg ls st I L R S lv q hz hl
  unfold zf_lsh at q
  split at q
  · exact X_s3 (hx _ _ _) (hk _ _ _ _ _ _ _ q hz hl)
  · exact q.elim
theorem zo_cv {i : Instr} {o : Int → Int} (hx : ∀ x st, xs3 i (.int (Int32.ofInt x) :: st) = some (.int (Int32.ofInt (o x)) :: st)) : zFok h w (pc, i, a, b, c) (zf_cv o) := by
  intro d hd k g Q r fall hk hg ls st I L R S lv q hz hl
  unfold zf_cv at q
  split at q
  · exact X_s3 (hx _ _) (hk _ _ _ _ _ _ _ q hz hl)
  · exact q.elim
theorem zn_i2 {f : ZF} {o : Int → Int → Int} (e : f = fun k _ _ ls st I L R S => match st with
  | .inl y :: .inl x :: st => k ls (zvi (o x y) :: st) I L R S
  | _ => False) : ∀ k g Q ls st I L R S, f k g Q ls st I L R S → ∃ y x st', st = Sum.inl y :: Sum.inl x :: st' := by
  intro k g Q ls st I L R S q
  rw [e] at q
  try dsimp only at q
  split at q
  · exact ⟨_, _, _, rfl⟩
  · exact q.elim
theorem zn_l2 {f : ZF} {o : Int → Int → Int} (e : f = fun k _ _ ls st I L R S => match st with
  | .inr (.inl y) :: .inr (.inl x) :: st => k ls (zvl (o x y) :: st) I L R S
  | _ => False) : ∀ k g Q ls st I L R S, f k g Q ls st I L R S → ∃ y x st', st = Sum.inr (Sum.inl y) :: Sum.inr (Sum.inl x) :: st' := by
  intro k g Q ls st I L R S q
  rw [e] at q
  try dsimp only at q
  split at q
  · exact ⟨_, _, _, rfl⟩
  · exact q.elim
theorem zo_iop {i : Instr} {f : ZF} {o : Int → Int → Int} (e : f = fun k _ _ ls st I L R S => match st with
  | .inl y :: .inl x :: st => k ls (zvi (o x y) :: st) I L R S
  | _ => False) (hx : ∀ x y st, xs2 i (.int (Int32.ofInt y) :: .int (Int32.ofInt x) :: st) = some (.int (Int32.ofInt (o x y)) :: st)) : zFok h w (pc, i, a, b, c) f :=
  zo_i2 (fun _ _ _ _ _ _ _ _ _ _ _ q => by rw [e] at q; exact q) (zn_i2 e) hx
theorem zo_lop {i : Instr} {f : ZF} {o : Int → Int → Int} (e : f = fun k _ _ ls st I L R S => match st with
  | .inr (.inl y) :: .inr (.inl x) :: st => k ls (zvl (o x y) :: st) I L R S
  | _ => False) (hx : ∀ x y st, xs3 i (.long (Int64.ofInt y) :: .long (Int64.ofInt x) :: st) = some (.long (Int64.ofInt (o x y)) :: st)) : zFok h w (pc, i, a, b, c) f :=
  zo_l2 (fun _ _ _ _ _ _ _ _ _ _ _ q => by rw [e] at q; exact q) (zn_l2 e) hx
end ZWC
