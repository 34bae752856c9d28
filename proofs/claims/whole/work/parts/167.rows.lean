/-! the two calls, as rows -/
section TXR
variable {p : Program} {l : Launch} {e : Env} {R : Room} {s : State} {mm : MethodId} {args : Array Value} {below : List Frame} {meth : Method} {c : Code} {H : Heap} {locs : List Loc} {Q : State → Prop} {ls : Array Slot} {cells slots pc : Nat} {rest : List Value} {A : Nat → Prop}
theorem t_slen {own : String} {idx a v len : Nat} {f : Nat → Int32} {cc : ByteArray} (hx : p.tables.exec = Jvm.exec) (hb : c.code = cc) (hml : c.maxLocals = ls.size) (hts : ∀ z ∈ xW, z.before args s = true) (hown : s.vm.findClass own = some mm.cls) (hl : Cond.methodLink own idx ty_length ∈ xW) (hX : tX A a v len f s) (hS : va_S A s.heap H locs) (hfr : 3 ≤ R.frames) (hlo : 150 ≤ R.locals) (h8 : (rest.map fun v => v.category).sum ≤ 8) (hc : cells ≤ R.cells) (hs : slots ≤ R.slots) (hd : decode cc pc = .ok (.invokevirtual idx, 3))
    (kk : ∀ (locs1 : List Loc), va_S A s.heap H locs1 → W p l e R s mm args below meth c H locs1 cells slots Q (F0 mm (pc + 3) ls (.int (Int32.ofNat len) :: rest))) : W p l e R s mm args below meth c H locs cells slots Q (F0 mm pc ls (.ref a :: rest)) := by
  have hrecv : ∃ cell : Cell, H[a]? = some cell ∧ cell.vm.isStatics = false ∧ s.vm.findClass "java/lang/String" = some cell.cls := by
    obtain ⟨cell, g1, g2, g3, -⟩ := hX.2.2.1.kept hS.2.1
    exact ⟨cell, g1, g2, g3⟩
  exact t_callk (va_runV (b := a) (As := []) (rest := rest) ⟨hx, hb, hml, hown, hts⟩ (t_length (l := l) (A := A) (a := a) (v := v) (len := len) (f := f)) (cwV 0 hts (C := "java/lang/String") (own := own) (index := idx) (tgoodV hl (txW (by decide +kernel) rfl) (txW (by decide +kernel) rfl) (txW (by decide +kernel) rfl) (txW (by decide +kernel) rfl)) rfl rfl rfl ⟨rfl, by decide, by decide, rfl⟩ ⟨by show 1 + 1 + 1 ≤ R.frames; omega, by show 8 + (1 + 11) + 50 * (1 + 1) ≤ R.locals; omega⟩) ⟨tblind A a v len f _, hrecv, fun U hU hW => ⟨rfl, hX.to hW hS hU⟩⟩ rfl rfl rfl rfl (lv_room h8) hd ⟨hc, hs⟩) hS kk
theorem t_schar {own : String} {idx a v len : Nat} {f : Nat → Int32} {cc : ByteArray} {i r : Int32} (h0 : ¬ i < 0) (h1 : i < Int32.ofNat len) (h2 : i.toNatClampNeg < len) (h3 : ((f i.toNatClampNeg &&& 255).toUInt32 % 65536).toInt32 = r) (h4 : r.toUInt32.toUInt16.toUInt32.toInt32 = r) (hx : p.tables.exec = Jvm.exec) (hb : c.code = cc) (hml : c.maxLocals = ls.size) (hts : ∀ z ∈ xW, z.before args s = true) (hown : s.vm.findClass own = some mm.cls) (hl : Cond.methodLink own idx ty_charAt ∈ xW) (hX : tX A a v len f s) (hS : va_S A s.heap H locs) (hfr : 5 ≤ R.frames) (hlo : 250 ≤ R.locals) (h8 : (rest.map fun v => v.category).sum ≤ 8) (hc : cells ≤ R.cells) (hs : slots ≤ R.slots) (hd : decode cc pc = .ok (.invokevirtual idx, 3))
    (kk : ∀ (locs1 : List Loc), va_S A s.heap H locs1 → W p l e R s mm args below meth c H locs1 cells slots Q (F0 mm (pc + 3) ls (.int r :: rest))) : W p l e R s mm args below meth c H locs cells slots Q (F0 mm pc ls (.int i :: .ref a :: rest)) := by
  have hrecv : ∃ cell : Cell, H[a]? = some cell ∧ cell.vm.isStatics = false ∧ s.vm.findClass "java/lang/String" = some cell.cls := by
    obtain ⟨cell, g1, g2, g3, -⟩ := hX.2.2.1.kept hS.2.1
    exact ⟨cell, g1, g2, g3⟩
  exact t_callk (va_runV (b := a) (As := [.int i]) (rest := rest) ⟨hx, hb, hml, hown, hts⟩ (t_charAt (l := l) (A := A) (a := a) (v := v) (len := len) (f := f) (i := i) (r := r) h0 h1 h2 h3 h4) (cwV 1 hts (C := "java/lang/String") (own := own) (index := idx) (tgoodV hl (txW (by decide +kernel) rfl) (txW (by decide +kernel) rfl) (txW (by decide +kernel) rfl) (txW (by decide +kernel) rfl)) rfl rfl rfl ⟨rfl, by decide, by decide, rfl⟩ ⟨by show 3 + 1 + 1 ≤ R.frames; omega, by show 8 + (2 + 11) + 50 * (3 + 1) ≤ R.locals; omega⟩) ⟨tblind A a v len f _, hrecv, fun U hU hW => ⟨rfl, hX.to hW hS hU⟩⟩ rfl rfl rfl rfl (lv_room h8) hd ⟨hc, hs⟩) hS kk
end TXR
theorem ts_ch : ∀ i, i < 29 → ∀ j, j < (tsb i).length → ((tsf i j &&& 255).toUInt32 % 65536).toInt32 = tsf i j ∧ (tsf i j).toUInt32.toUInt16.toUInt32.toInt32 = tsf i j := by decide +kernel
/-- a text's rows out of its place: all that charAt asks -/
theorem ts_in {i : Nat} (hi : i < 29) {j : Int32} (h : ¬ j < 0) (h2 : j.toNatClampNeg < (tsb i).length) : j < Int32.ofNat (tsb i).length ∧ ((tsf i j.toNatClampNeg &&& 255).toUInt32 % 65536).toInt32 = tsf i j.toNatClampNeg ∧ (tsf i j.toNatClampNeg).toUInt32.toUInt16.toUInt32.toInt32 = tsf i j.toNatClampNeg := by
  refine ⟨?_, ts_ch i hi _ h2⟩
  have hn := ts_n i hi
  have e : j = nI j.toNatClampNeg := by
    obtain ⟨n, hn, rfl⟩ := nI_of h
    rw [nI_clamp hn]
  rw [e]
  exact nI_lt h2 hn
