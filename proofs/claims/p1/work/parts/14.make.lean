/-! cells that are made; constants; what a method's row must say -/
theorem xnew_old {E : XE} {m : XM} {t len a : Nat} (ha : a ≠ xn m) (j : Nat) : xsh (xnew m t len) a = xsh m a ∧ xel E (xnew m t len) a j = xel E m a j := by
  have h1 : xsh (xnew m t len) a = xsh m a := by
    show (if a = xn m then (t, len) else xsh m a) = _
    rw [if_neg ha]
  refine ⟨h1, ?_⟩
  unfold xel
  rw [h1]
  have hz : ∀ {α : Type} {f : Nat → Nat → α} {v : α}, xz f (xn m) v a j = f a j := by
    intro α f v; unfold xz; rw [if_neg ha]
  congr 1
  unfold xval
  split
  · exact congrArg Value.long hz
  · exact congrArg va_rf hz
  · exact congrArg Value.int hz
def xdv : Nat → Value
  | 1 => .long 0
  | 2 => .null
  | _ => .int 0
theorem xnew_new {E : XE} {m : XM} {t len : Nat} (j : Nat) : xsh (xnew m t len) (xn m) = (t, len) ∧ xel E (xnew m t len) (xn m) j = xdv (xkind t j) := by
  have h1 : xsh (xnew m t len) (xn m) = (t, len) := by
    show (if xn m = xn m then (t, len) else xsh m (xn m)) = _
    rw [if_pos rfl]
  refine ⟨h1, ?_⟩
  unfold xel
  rw [h1]
  have hz : ∀ {α : Type} {f : Nat → Nat → α} {v : α}, xz f (xn m) v (xn m) j = v := by
    intro α f v; unfold xz; rw [if_pos rfl]
  show xc E (xval (xnew m t len) (xkind t j) (xn m) j) = _
  generalize xkind t j = kd
  match kd with
  | 0 => exact congrArg (fun z => xc E (Value.int z)) hz
  | 1 => exact congrArg (fun z => xc E (Value.long z)) hz
  | 2 => exact congrArg (fun z => xc E (va_rf z)) hz
  | _ + 3 => exact congrArg (fun z => xc E (Value.int z)) hz
theorem xRep_new {E : XE} {m : XM} {H H' : Heap} {t len : Nat} (hR : xRep E m H) (hA : xEad E) (hz : H'.size = H.size + 1) (ho : ∀ q, q < H.size → H'[q]? = H[q]?) (hc : xcell E (xnew m t len) (xn m) H') : xRep E (xnew m t len) H' := by
  have hn : xn (xnew m t len) = xn m + 1 := rfl
  have h0 := hR.1.1
  refine ⟨⟨by rw [hn]; omega, by rw [hn, hz, hR.1.2]; omega⟩, fun a h1 h2 => ?_, fun a h1 h2 => ?_⟩
  · rw [hn] at h2
    by_cases h : a = xn m
    · rw [h]; exact hc
    · refine xcell_kept (xnew_old (E := E) h 0).1 (fun j => (xnew_old h j).2) (ho _ ?_) (hR.2.1 a h1 (by omega))
      rw [hA.2 a h1, hR.1.2]
      omega
  · have h : a ≠ xn m := by omega
    rw [(xnew_old (E := E) h 0).1] at h2 ⊢
    obtain ⟨g1, g2, g3, g4⟩ := hR.2.2 a h1 h2
    have hlt : xad E a < H.size := by
      have := hA.1 a h1
      rw [hR.1.2]
      omega
    exact ⟨g1, by rw [ho _ hlt]; exact g2, g3, fun j hj => by rw [(xnew_old h j).2]; exact g4 j hj⟩
theorem xKn_new {m : XM} {t len : Nat} (hK : xKn m) (ht : t < 22 ∨ xoks t) : xKn (xnew m t len) := by
  intro a h1 h2
  by_cases h : a = xn m
  · rw [h, show xsh (xnew m t len) (xn m) = (t, len) from if_pos rfl]; exact ht
  · rw [show xsh (xnew m t len) a = xsh m a from if_neg h]
    exact hK a h1 (by have : xn (xnew m t len) = xn m + 1 := rfl; omega)
theorem arrV_new_fun (cA : ClassId) (N : Nat) (x : Value) (f : Nat → Value) (h : ∀ j, f j = x) : ({ cls := cA, slots := Array.replicate N x, vm := .none } : Cell) = arrV cA N f := by
  rw [arrV_new]
  congr 1
  funext j
  exact (h j).symm
section XMA
variable {p : Program} {l : Launch} {e : Env} {R : Room} {s : State} {mm : MethodId} {args : Array Value} {below : List Frame} {meth : Method} {c : Code} {H H0 : Heap} {locs : List Loc} {cells slots : Nat} {Q : State → Prop} {cc : ByteArray} {pc : Nat} {ls : Array Slot} {E : XE} {st st' : List Value} {i : Instr} {m m' : XM} {a b own : Nat}
theorem xacw {w : Cond} (h : w ∈ ([.arrayClass .byte, .arrayClass .char, .arrayClass .long, .arrayClass .int, .arrayClass .boolean] : List Cond)) (hac : xsub tables_1 [.arrayClass .byte, .arrayClass .char, .arrayClass .long, .arrayClass .int, .arrayClass .boolean] = true) : w ∈ tables_1 := xsub_in _ _ hac _ h
theorem xS_new {n : Nat} {H' : Heap} (hS : va_S (xA E) H0 H locs) (hz : H'.size = n + 1) (hn : H.size = n) (ho : ∀ q, q < n → H'[q]? = H[q]?) : va_S (xA E) H0 H' locs :=
  ⟨by have := hS.1; omega, fun q h1 h2 => (ho q (by have := hS.1; omega)).trans (hS.2.1 q h1 h2), hS.2.2⟩
theorem xs8_arr (hx : p.tables.exec = Jvm.exec) (hb : c.code = cc) (hts : ∀ w ∈ xW, w.before args s = true) (hE : xEnv E s) (hR : xRep E m H) (hA : xEad E) (hK : xKn m) (hS : va_S (xA E) H0 H locs) {t : ArrayType} {n : Int32} {r : List Value} (ht : xatk t = a) (ha : a ≠ 0) (hw : Cond.arrayClass (newarray.typeOf t) ∈ tables_1)
    (hn : ¬ n < 0) (hn2 : n.toNatClampNeg < 1000000) (hcells : cells + 1 ≤ R.cells) (hslots : slots + n.toNatClampNeg ≤ R.slots) (hd : decode cc pc = .ok (.newarray t, 2))
    (kk : ∀ (H1 : Heap), xRep E (xnew m a n.toNatClampNeg) H1 → xKn (xnew m a n.toNatClampNeg) → va_S (xA E) H0 H1 locs → W p l e R s mm args below meth c H1 locs (cells + 1) (slots + n.toNatClampNeg) Q (F0 mm (pc + 2) ls (.ref (xad E (xn m)) :: r))) : W p l e R s mm args below meth c H locs cells slots Q (F0 mm pc ls (.int n :: r)) := by
  have hty : newarray.typeOf t = xaty a ∧ (a = 100 ∨ a = 101 ∨ a = 102 ∨ a = 103 ∨ a = 104) := by
    subst ht
    cases t <;> first | exact ⟨rfl, by decide⟩ | exact absurd rfl ha
  have hadr : xad E (xn m) = H.size := by rw [hA.2 _ hR.1.1, hR.1.2]
  have hbytes : n.toNatClampNeg * componentBytes (newarray.typeOf t) ≤ 536870912 := by
    have hcb : componentBytes (newarray.typeOf t) ≤ 8 := by cases t <;> decide
    have := Nat.mul_le_mul (Nat.le_of_lt hn2) hcb
    omega
  refine va_newaK hx hb (hts _ (xW_of hw rfl)) rfl hd rfl hn rfl hbytes hcells hslots rfl fun H1 cA e1 z1 o1 hAr hNm => ?_
  have hra := (xarrOf hE (t := a) (by rcases hty.2 with h | h | h | h | h <;> simp [h])).2
  have hcA : cA = E.2.1 a := by
    have h1 : s.vm.findClass ("[" ++ (xaty a).toString) = some (E.2.1 a) := by
      rcases hty.2 with h | h | h | h | h <;> (subst h; exact hra)
    rw [← hty.1, hNm] at h1
    exact Option.some.inj h1
  rw [← hadr]
  refine kk H1 (xRep_new hR hA z1 o1 ?_) (xKn_new hK (Or.inr (by unfold xoks; omega))) (xS_new hS z1 rfl o1)
  unfold xcell
  rw [(xnew_new (E := E) (m := m) (t := a) (len := n.toNatClampNeg) 0).1, if_neg (Nat.not_lt.mpr (show 100 ≤ a by have := hty.2; omega)), hadr, e1, hcA]
  congr 2
  funext j
  rw [(xnew_new j).2, hty.1]
  rcases hty.2 with h | h | h | h | h <;> subst h <;> rfl
theorem xs8_arrO (hx : p.tables.exec = Jvm.exec) (hb : c.code = cc) (hts : ∀ w ∈ xW, w.before args s = true) (hown : s.vm.findClass (xcn own) = some mm.cls) (hE : xEnv E s) (hR : xRep E m H) (hA : xEad E) (hK : xKn m) (hS : va_S (xA E) H0 H locs) {idx : Nat} {n : Int32} {r : List Value} (hw : (own, idx, 20) ∈ xCK)
    (hn : ¬ n < 0) (hn2 : n.toNatClampNeg < 1000000) (hcells : cells + 1 ≤ R.cells) (hslots : slots + n.toNatClampNeg ≤ R.slots) (hd : decode cc pc = .ok (.anewarray idx, 3))
    (kk : ∀ (H1 : Heap), xRep E (xnew m 130 n.toNatClampNeg) H1 → xKn (xnew m 130 n.toNatClampNeg) → va_S (xA E) H0 H1 locs → W p l e R s mm args below meth c H1 locs (cells + 1) (slots + n.toNatClampNeg) Q (F0 mm (pc + 3) ls (.ref (xad E (xn m)) :: r))) : W p l e R s mm args below meth c H locs cells slots Q (F0 mm pc ls (.int n :: r)) := by
  have hadr : xad E (xn m) = H.size := by rw [hA.2 _ hR.1.1, hR.1.2]
  obtain ⟨-, kA, comp, k1, k2, k3, k4⟩ := xarrOf hE (t := 130) (by simp)
  have hcw := hts _ (xW_of (x_in (fun e : Nat × Nat × Nat => Cond.classLink (xcn e.1) e.2.1 (xcn e.2.2)) xCK_ok hw) rfl)
  refine W.anew hx hb hown hcw (va_AO.use hE.2.2.2.2) rfl hd rfl hn (by omega) hcells hslots fun cA kA' comp' h1 h2 h3 h4 => ?_
  have hcA : cA = E.2.1 130 := Option.some.inj (h1.symm.trans k4)
  rw [← hadr]
  refine kk _ (xRep_new hR hA (by simp) (fun q hq => by rw [Array.getElem?_push, if_neg (Nat.ne_of_lt hq)]) ?_) (xKn_new hK (Or.inr (by unfold xoks; omega))) (xS_new hS (by simp) rfl (fun q hq => by rw [Array.getElem?_push, if_neg (Nat.ne_of_lt hq)]))
  unfold xcell
  rw [(xnew_new (E := E) (m := m) (t := 130) (len := n.toNatClampNeg) 0).1, if_neg (show ¬ 130 < 100 by decide), hadr, hcA]
  rw [← arrV_new_fun (E.2.1 130) n.toNatClampNeg .null (fun j => xel E (xnew m 130 n.toNatClampNeg) (xn m) j) (fun j => (xnew_new j).2)]
  simp
theorem xs8_new (hx : p.tables.exec = Jvm.exec) (hb : c.code = cc) (hts : ∀ w ∈ xW, w.before args s = true) (hown : s.vm.findClass (xcn own) = some mm.cls) (hE : xEnv E s) (hR : xRep E m H) (hA : xEad E) (hK : xKn m) (hS : va_S (xA E) H0 H locs) {idx : Nat} {r : List Value} (ha : xcok a) (ha2 : a < 22) (hbn : b = xnf a) (hw : (own, idx, a) ∈ xCK) (hin : (a, b) ∈ xIN) (hit : a ∈ xIT)
    (hcells : cells + 1 ≤ R.cells) (hslots : slots + b ≤ R.slots) (hd : decode cc pc = .ok (.new idx, 3))
    (kk : ∀ (H1 : Heap), xRep E (xnew m a b) H1 → xKn (xnew m a b) → va_S (xA E) H0 H1 locs → W p l e R s mm args below meth c H1 locs (cells + 1) (slots + b) Q (F0 mm (pc + 3) ls (.ref (xad E (xn m)) :: r))) : W p l e R s mm args below meth c H locs cells slots Q (F0 mm pc ls r) := by
  have hadr : xad E (xn m) = H.size := by rw [hA.2 _ hR.1.1, hR.1.2]
  obtain ⟨C, c1, c2, c3, c4, c5, c6, c7⟩ := ha
  have hcw := hts _ (xW_of (x_in (fun e : Nat × Nat × Nat => Cond.classLink (xcn e.1) e.2.1 (xcn e.2.2)) xCK_ok hw) rfl)
  have hiw := hts _ (xW_of (x_in (fun e : Nat × Nat => Cond.instantiable (xcn e.1) e.2) xIN_ok hin) rfl)
  have htw := hts _ (xW_of (x_in (fun e : Nat => Cond.initialized (xcn e)) xIT_ok hit) rfl)
  have hKn := hE.1.1 a _ c1
  dsimp only at hcw hiw htw
  rw [c2] at hcw hiw htw
  refine W.newcK hx hb hown hcw hiw htw rfl hd hcells hslots hKn.2.1 rfl fun H1 kC hkC e1 z1 o1 => ?_
  rw [← hadr]
  refine kk H1 (xRep_new hR hA z1 o1 ?_) (xKn_new hK (Or.inl ha2)) (xS_new hS z1 rfl o1)
  unfold xcell
  rw [(xnew_new (E := E) (m := m) (t := a) (len := b) 0).1, if_pos (show a < 100 by omega)]
  refine ⟨hbn, ?_⟩
  rw [hadr]
  refine (u_born (xtyp a) hts c3 hKn hkC e1 c4).to fun j hj => ?_
  rw [(xnew_new j).2]
  unfold xkind
  rw [if_pos (show a < 100 by omega)]
  have h9 := c7 j hj
  cases hty : xtyp a j <;> first | rfl | (rw [hty] at h9; exact absurd rfl h9)
theorem xs8_obj (hx : p.tables.exec = Jvm.exec) (hb : c.code = cc) (hts : ∀ w ∈ xW, w.before args s = true) (hown : s.vm.findClass (xcn own) = some mm.cls) {idx k : Nat} {r : List Value} (hsz : ls.size = c.maxLocals)
    (hlink : Cond.methodLink (xcn own) idx Lib.objectInit ∈ tables_1) (hinst : Cond.instanceMethod Lib.objectInit ∈ tables_1) (hcode : Cond.code Lib.objectInit ⟨#[0xb1]⟩ 1 none ∈ tables_1)
    (hc8 : xcats r ≤ 8) (hfr : 1 ≤ R.frames) (hlo : 20 ≤ R.locals) (hd : decode cc pc = .ok (.invokespecial idx, 3))
    (kk : W p l e R s mm args below meth c H locs cells slots Q (F0 mm (pc + 3) ls (xcs E r))) : W p l e R s mm args below meth c H locs cells slots Q (F0 mm pc ls (.ref k :: xcs E r)) := by
  refine W.objInit hx hb hown (hts _ (xW_of hlink rfl)) (hts _ (xW_of hinst rfl)) (hts _ (xW_of hcode rfl)) rfl hsz rfl hd hfr ?_ kk
  have h1 := lv_room (m := mm) (pc := pc) (ls := ls) (rest := .ref k :: xcs E r) (st := xcs E r) (by rw [xcs_cats]; exact hc8)
  omega
theorem xs9_ok {n : Int} (hx : p.tables.exec = Jvm.exec) (hb : c.code = cc) (hts : ∀ w ∈ xW, w.before args s = true) (hown : s.vm.findClass (xcn own) = some mm.cls) (h : xs9 i a n st = some st') (hd : decode cc pc = .ok (i, xlen i))
    (hk : ∀ idx, (i = .ldc idx ∨ i = .ldc_w idx) → (own, idx, n) ∈ xKI) (hkl : ∀ idx, i = .ldc2_w idx → (own, idx, n) ∈ xKL)
    (k : W p l e R s mm args below meth c H locs cells slots Q (F0 mm (pc + xlen i) ls (xcs E st'))) : W p l e R s mm args below meth c H locs cells slots Q (F0 mm pc ls (xcs E st)) := by
  unfold xs9 at h
  split at h
  · split at h
    · cases h
      exact lv_ldc hx hb hown (hts _ (xW_of (x_in (fun e : Nat × Nat × Int => Cond.constant (xcn e.1) e.2.1 (Int32.ofInt e.2.2)) xKI_ok (hk _ (Or.inl rfl))) rfl)) hd k
    · cases h
  · split at h
    · cases h
      exact lv_ldcw hx hb hown (hts _ (xW_of (x_in (fun e : Nat × Nat × Int => Cond.constant (xcn e.1) e.2.1 (Int32.ofInt e.2.2)) xKI_ok (hk _ (Or.inr rfl))) rfl)) hd k
    · cases h
  · split at h
    · cases h
      exact lv_ldc2 hx hb hown (hts _ (xW_of (x_in (fun e : Nat × Nat × Int => Cond.constantLong (xcn e.1) e.2.1 (Int64.ofInt e.2.2)) xKL_ok (hkl _ rfl)) rfl)) hd k
    · cases h
  · cases h
end XMA
