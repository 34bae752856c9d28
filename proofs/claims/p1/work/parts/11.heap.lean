/-! the machine's heap and the abstract cells -/
def xkind (t j : Nat) : Nat := if t < 100 then xkd (xtyp t j) else if t = 101 then 1 else if 110 ≤ t then 2 else 0
def xaty (t : Nat) : FieldType := match t with
  | 100 => .int | 101 => .long | 102 => .byte | 103 => .boolean | 104 => .char | t => .object (xcn (t - 110))
abbrev xbase (E : XE) : Nat := E.2.2.2.1
abbrev xoc (E : XE) : Nat → Nat × Cell := E.2.2.2.2
def xel (E : XE) (m : XM) (k j : Nat) : Value := xc E (xval m (xkind (xsh m k).1 j) k j)
def xcell (E : XE) (m : XM) (k : Nat) (H : Heap) : Prop :=
  if (xsh m k).1 < 100 then (xsh m k).2 = xnf (xsh m k).1 ∧ t_OB (xad E k) (E.1.1 (xsh m k).1) (xnf (xsh m k).1) (E.1.2 (xsh m k).1) H (fun j => xel E m k j)
  else H[xad E k]? = some (arrV (E.2.1 (xsh m k).1) (xsh m k).2 (fun j => xel E m k j))
/-- addresses -/
def xEad (E : XE) : Prop := (∀ k, k < x0 → xad E k < xbase E) ∧ ∀ k, x0 ≤ k → xad E k = xbase E + (k - x0)
def xRep (E : XE) (m : XM) (H : Heap) : Prop :=
  (x0 ≤ xn m ∧ H.size = xbase E + (xn m - x0)) ∧ (∀ k, x0 ≤ k → k < xn m → xcell E m k H) ∧
  (∀ k, k < x0 → 100 ≤ (xsh m k).1 → (xsh m k).1 = (xoc E k).1 ∧ H[xad E k]? = some (xoc E k).2 ∧ ((xsh m k).2 ≤ (xoc E k).2.slots.size ∧ (xoc E k).2.slots.size.toInt32 = Int32.ofNat (xsh m k).2) ∧ ∀ j, j < (xsh m k).2 → (xoc E k).2.slots[j]? = some (xel E m k j))
/-- which cells are written -/
def xA (E : XE) : Nat → Prop := fun q => xbase E ≤ q
def xtyl (E : XE) : List (ClassId × FieldType) := [(E.2.1 100, xaty 100), (E.2.1 101, xaty 101), (E.2.1 102, xaty 102), (E.2.1 103, xaty 103), (E.2.1 104, xaty 104), (E.2.1 130, xaty 130)]
/-- what is known of a state's tables -/
def xEnv (E : XE) (U : State) : Prop :=
  va_K E.1 vwCl (xtyl E) U ∧ (∀ k, k < x0 → 100 ≤ (xoc E k).1 → U.isArrayOf (xoc E k).2 (xaty (xoc E k).1) ∧ (xoc E k).2.vm ≠ .unknown) ∧
  (∀ e ∈ xFN, va_Nw (xfn e) U) ∧ (∀ e ∈ xMN, va_Nw (xmv e) U) ∧ va_AO (xcn 20) U
theorem xEnv.warm {E : XE} {s U : State} (hW : s.WarmedH U.vm) (h : xEnv E s) : xEnv E U :=
  ⟨va_K.moved hW.alike h.1, fun k h1 h2 => ⟨State.isArrayOf_alike hW.alike (h.2.1 k h1 h2).1, (h.2.1 k h1 h2).2⟩, fun e he => va_Nw.warmF hW (h.2.2.1 e he), fun e he => va_Nw.warmM hW (h.2.2.2.1 e he), va_AO.moved hW.alike h.2.2.2.2⟩
theorem xarrOf {E : XE} {U : State} (h : xEnv E U) {t : Nat} (ht : t = 100 ∨ t = 101 ∨ t = 102 ∨ t = 103 ∨ t = 104 ∨ t = 130) : ArrOfT U (E.2.1 t) (xaty t) ∧ va_RA U (E.2.1 t) (xaty t) := by
  rcases ht with rfl | rfl | rfl | rfl | rfl | rfl
  · exact h.1.2 0 _ rfl
  · exact h.1.2 1 _ rfl
  · exact h.1.2 2 _ rfl
  · exact h.1.2 3 _ rfl
  · exact h.1.2 4 _ rfl
  · exact h.1.2 5 _ rfl
def xoks (t : Nat) : Prop := t = 100 ∨ t = 101 ∨ t = 102 ∨ t = 103 ∨ t = 104 ∨ t = 130
/-- only known kinds of cells are there -/
def xKn (m : XM) : Prop := ∀ k, x0 ≤ k → k < xn m → (xsh m k).1 < 22 ∨ xoks (xsh m k).1
/-- an array, old or new, as it is read -/
theorem xarr {E : XE} {m : XM} {H : Heap} {U : State} {k : Nat} (hR : xRep E m H) (hE : xEnv E U) (hK : xKn m) (hk : k < xn m) (ht : 100 ≤ (xsh m k).1) :
    ∃ cell : Cell, H[xad E k]? = some cell ∧ U.isArrayOf cell (xaty (xsh m k).1) ∧ cell.vm ≠ .unknown ∧ ((xsh m k).2 ≤ cell.slots.size ∧ cell.slots.size.toInt32 = Int32.ofNat (xsh m k).2) ∧ ∀ j, j < (xsh m k).2 → cell.slots[j]? = some (xel E m k j) := by
  by_cases h0 : k < x0
  · obtain ⟨h1, h2, h3, h4⟩ := hR.2.2 k h0 ht
    have h5 := hE.2.1 k h0 (h1 ▸ ht)
    exact ⟨_, h2, by rw [h1]; exact h5.1, h5.2, h3, h4⟩
  · have h1 := hR.2.1 k (Nat.not_lt.mp h0) hk
    unfold xcell at h1
    rw [if_neg (Nat.not_lt.mpr ht)] at h1
    have h2 : xoks (xsh m k).1 := (hK k (Nat.not_lt.mp h0) hk).resolve_left (by omega)
    exact ⟨_, h1, (xarrOf hE h2).1 _ _, fun h => (by cases h), ⟨Nat.le_of_eq (arrV_size _ _ _).symm, by rw [arrV_size]⟩, fun j hj => arrV_read _ _ hj⟩
theorem xin_ok {j : Int32} {n : Nat} (h : xin j n = true) : ¬ j < 0 ∧ j.toNatClampNeg < n := by
  unfold xin at h
  simp only [Bool.and_eq_true, Bool.not_eq_true', decide_eq_false_iff_not] at h
  exact ⟨h.1, Nat.le_of_ble_eq_true h.2⟩
theorem xin_v {j : Int32} {n : Nat} (h : xin j n = true) : ¬ (j < 0 ∨ n ≤ j.toNatClampNeg) := fun q => q.elim (xin_ok h).1 (Nat.not_le.mpr (xin_ok h).2)
theorem xin_v2 {j : Int32} {n z : Nat} (h : xin j n = true) (hz : n ≤ z) : ¬ (j < 0 ∨ z ≤ j.toNatClampNeg) := fun q => q.elim (xin_ok h).1 (Nat.not_le.mpr (Nat.lt_of_lt_of_le (xin_ok h).2 hz))
section XHA
variable {p : Program} {l : Launch} {e : Env} {R : Room} {s : State} {mm : MethodId} {args : Array Value} {below : List Frame} {meth : Method} {c : Code} {H : Heap} {locs : List Loc} {cells slots : Nat} {Q : State → Prop} {cc : ByteArray} {pc : Nat} {ls : Array Slot} {E : XE} {st st' : List Value} {i : Instr} {m m' : XM} {a b own : Nat}
/-- a field's word, plain or of a nest mate -/
def xfok (own idx a k : Nat) : Prop := (own, idx, a, k) ∈ xFL ∨ ∃ h, (own, idx, a, k, h) ∈ xFN
/-- what a class's table says -/
def xcok (a : Nat) : Prop := ∃ C : String, vwCl[a]? = some (C, xTb a, xnf a) ∧ xcn a = C ∧ (∀ w ∈ u_ws C (xTb a) (xnf a), w ∈ xW) ∧ (∀ k, k < xnf a → parseFieldDescriptor (xTb a k).2.2.1 = some (xtyp a k)) ∧ (∀ x, x < xnf a → ∀ y, y < xnf a → x ≠ y → (xTb a x).2.1 ≠ (xTb a y).2.1) ∧ (∀ k, k < xnf a → (xTb a k).1 = C) ∧ ∀ k, k < xnf a → xkd (xtyp a k) ≠ 9
theorem xs6_get (hx : p.tables.exec = Jvm.exec) (hb : c.code = cc) (hts : ∀ w ∈ xW, w.before args s = true) (hown : s.vm.findClass (xcn own) = some mm.cls) (hE : xEnv E s) (hR : xRep E m H) {idx k : Nat} {r : List Value}
    (hk : x0 ≤ k ∧ k < xn m ∧ (xsh m k).1 = a) (ha : xcok a) (ha2 : a < 100) (hf : xfok own idx a (b / 8)) (hb2 : b % 8 = xkd (xtyp a (b / 8))) (hb3 : b / 8 < xnf a) (hd : decode cc pc = .ok (.getfield idx, 3))
    (kk : W p l e R s mm args below meth c H locs cells slots Q (F0 mm (pc + 3) ls (xc E (xval m (b % 8) k (b / 8)) :: r))) : W p l e R s mm args below meth c H locs cells slots Q (F0 mm pc ls (.ref (xad E k) :: r)) := by
  obtain ⟨C, c1, c2, c3, c4, c5, c6, -⟩ := ha
  have h1 := hR.2.1 k hk.1 hk.2.1
  unfold xcell at h1
  rw [if_pos (by rw [hk.2.2]; exact ha2), hk.2.2] at h1
  have hP : va_P E.1 vwCl [(xad E k, .inr (a, (List.range (xnf a)).map (fun j => xel E m k j)))] H := by
    intro z q hq
    have hz : z < 1 := (List.getElem?_eq_some_iff.mp hq).1
    rw [show z = 0 by omega] at hq
    cases hq
    refine ⟨_, c1, h1.2.to fun j hj => ?_⟩
    simp [vp_V, hj]
  have hv : ((List.range (xnf a)).map (fun j => xel E m k j))[b / 8]? = some (xc E (xval m (b % 8) k (b / 8))) := by
    simp [hb3, xel, xkind, hk.2.2, ha2, hb2]
  rcases hf with hf | ⟨h, hf⟩
  · refine va_get hx hb hts c3 hown hE.1 hP 0 rfl c1 (b / 8) hb3 (ref := C) ?_ (fun _ h9 => by rw [c6 _ hb3] at h9; exact h9) hv hd kk
    have hw := hts _ (xW_of (x_in xfw xFL_ok hf) rfl)
    unfold xfw at hw
    rw [c6 _ hb3] at hw
    exact hw
  · refine va_getN hx hb hts c3 hown hE.1 hP 0 rfl c1 (b / 8) hb3 (ref := C) (host := xcn h) ?_ (fun _ h9 => by rw [c6 _ hb3] at h9; exact h9) hv hd kk
    have hw := va_Nw.use (A := args) rfl (hE.2.2.1 _ hf)
    unfold xfn at hw
    rw [c6 _ hb3] at hw
    exact hw
end XHA
