/-! calls, and the whole of a run -/
theorem xnp_ok : (xCOl.all fun e => decide ((parseMethodDescriptor (xmn e.1 e.2).desc).map (fun d => d.parameters.length) = some (xna e.1 e.2)) && (Nat.ble (xmr e.1 e.2).2.2.2.1 31)) = true := by decide +kernel
theorem xcn_ne : ∀ a, a < 22 → xcn a ≠ "java/lang/invoke/MethodHandle" ∧ xcn a ≠ "java/lang/invoke/VarHandle" ∧ plainName (xcn a) = true := by decide +kernel
theorem xgood {l : List Cond} (h : ∀ w ∈ l, w ∈ xW) : GoodIn xW l := fun w hw => ⟨h w hw, good_of_word (List.mem_filter.mp (h w hw)).2⟩
theorem xin_code {c i : Nat} (h : (c, i) ∈ xCOl) : ∀ w ∈ xWs (xmn c i) (xmr c i).2.2.1 (xmr c i).2.2.2.1 (xmr c i).2.2.2.2, w ∈ xW := by
  intro w hw
  rcases List.mem_cons.mp hw with h1 | h1
  · rw [h1]; exact xW_of (xCO_w _ h) rfl
  · exact h1
/-- what a table of stretches must be -/
def xPok (P : Nat → Nat → XRow) : Prop := ∀ c i, (∃ bs, P c i = (c, xmn c i, (xmr c i).2.2.1, (xmr c i).2.2.2.1, (xmr c i).2.2.2.2, bs)) ∧ xGood (P c i)
def xSnd (l : Launch) (E : XE) (P : Nat → Nat → XRow) (f : Nat) : Prop := ∀ (d : Nat) (w : XRow) (code : List XI) (fall : Nat) (lv : List (Nat × Value)) (st : List Value) (m : XM) (v : Option Value) (mF : XM), xrun P f d w code fall lv st m = some (v, mF) → xGood w → ∀ pc, xGc w pc code fall →
  ∀ {p : Program} {e : Env} {R : Room} {s : State} {mm : MethodId} {args : Array Value} {below : List Frame} {meth : Method} {c : Code} {Q : State → Prop} {H H0 : Heap} {locs : List Loc} {ls : Array Slot} {nE wE : Nat},
  p.tables.exec = Jvm.exec → c.code = w.2.2.1 → c.maxLocals = w.2.2.2.1 → (∀ z ∈ xW, z.before args s = true) → s.vm.findClass (xcn w.1) = some mm.cls → (w.2.1.name = "<init>" → meth.name = "<init>") → xEnv E s →
  d + 5 ≤ R.frames → 50 * (d + 5) ≤ R.locals → xn mF - nE ≤ R.cells → xw mF - wE ≤ R.slots → nE ≤ xn m → wE ≤ xw m →
  xRep E m H → xKn m → xOld m → va_S (xA E) H0 H locs → lv_has ls w.2.2.2.1 (xlv E lv) → xSt E s H0 →
  (∀ (i : Instr) (st1 : List Value) (H1 : Heap) (locs1 : List Loc) (ls1 : Array Slot) (pc1 : Nat), xret w.2.2.2.2.1 i st1 = some v → decode w.2.2.1 pc1 = .ok (i, 1) → xRep E mF H1 → xKn mF → xOld mF → va_S (xA E) H0 H1 locs1 → W p l e R s mm args below meth c H1 locs1 (xn mF - nE) (xw mF - wE) Q (F0 mm pc1 ls1 (xcs E st1))) →
  W p l e R s mm args below meth c H locs (xn m - nE) (xw m - wE) Q (F0 mm pc ls (xcs E st))
theorem x_met {l : Launch} {E : XE} {P : Nat → Nat → XRow} {f : Nat} (hih : xSnd l E P f) (hA : xEad E) (hP : xPok P) {d c0 i0 : Nat} {av : List Value} {m mF : XM} {v : Option Value} (hc0 : c0 < 22)
    (h : xgo (xrun P f) d (P c0 i0) 0 (lv_args 0 av) [] m = some (v, mF)) (hsl : xcats av ≤ (xmr c0 i0).2.2.2.1) (hK : xKn m) (hO : xOld m) :
    Met l (xmn c0 i0) (xWs (xmn c0 i0) (xmr c0 i0).2.2.1 (xmr c0 i0).2.2.2.1 (xmr c0 i0).2.2.2.2) (xrm d (xn mF - xn m) (xw mF - xw m)) (va_Pc (xcs E av) (xPre E m)) (xPost E v mF) (xn mF - xn m) (xw mF - xw m) (xA E) := by
  obtain ⟨⟨bs, hrow⟩, hrok⟩ := hP c0 i0
  refine Met.ofW (cc := (xmr c0 i0).2.2.1) (maxL := (xmr c0 i0).2.2.2.1) (ret := (xmr c0 i0).2.2.2.2) (xcn_ne c0 hc0).2.2 rfl ?_
  intro p e s mm args below meth c s₁ B hml hv
  obtain ⟨rfl, hR, hE, hZ⟩ := hv
  have hts : ∀ z ∈ xW, z.before (xcs E av).toArray s = true := fun z hz => atoms_spec (ws := xWs (xmn c0 i0) (xmr c0 i0).2.2.1 (xmr c0 i0).2.2.2.1 (xmr c0 i0).2.2.2.2) B.pre z (List.mem_cons_of_mem _ hz)
  have hown : s.vm.findClass (xcn c0) = some mm.cls := findClass_of_methodNamed B.named
  have hmn : meth.name = (xmn c0 i0).name := (name_of_methodNamed B.named B.method).1
  have hlocks := B.notSynchronized
  have hr := B.returns
  have hx := B.exec
  have hb := B.bytes
  have hlen : (lg_sl (xcs E av)).length ≤ (xmr c0 i0).2.2.2.1 := by
    rw [xsl_len]
    unfold xcats
    rw [xcs_cats]
    exact hsl
  have hl := lv_entry (xcs E av) (n := (xmr c0 i0).2.2.2.1) hlen
  rw [lg_entry_eq]
  generalize (lg_sl (xcs E av) ++ List.replicate ((xmr c0 i0).2.2.2.1 - (lg_sl (xcs E av)).length) Slot.unset).toArray = ls at hl ⊢
  rw [xlv_args] at hl
  rw [xgo_eq] at h
  have hbase : xSt E s s.heap := ⟨by rw [hR.1.2]; omega, rfl, hZ⟩
  have hk := hih d (P c0 i0) _ _ _ _ _ _ _ h hrok 0 (xfind_ok hrok 0) (p := p) (e := e) (R := (headSpec (xWs (xmn c0 i0) (xmr c0 i0).2.2.1 (xmr c0 i0).2.2.2.1 (xmr c0 i0).2.2.2.2) (xrm d (xn mF - xn m) (xw mF - xw m))).room) (s := s) (mm := mm) (args := (xcs E av).toArray) (below := below) (meth := meth) (c := c)
    (Q := MQ below (xPost E v mF) (xcs E av).toArray s (xn mF - xn m) (xw mF - xw m) (xA E)) (H := s.heap) (H0 := s.heap) (locs := []) (ls := ls) (nE := xn m) (wE := xw m)
    hx (by rw [hrow]; exact hb) (by rw [hrow]; exact hml) hts (by rw [hrow]; exact hown) (by rw [hrow]; exact fun h9 => hmn.trans h9) hE (Nat.le_refl _) (Nat.le_refl _) (Nat.le_refl _) (Nat.le_refl _) (Nat.le_refl _) (Nat.le_refl _) hR hK hO va_S.rf (by rw [hrow]; exact hl) hbase ?_
  · rw [Nat.sub_self, Nat.sub_self] at hk
    exact hk
  · intro i st1 H1 locs1 ls1 pc1 hret hd hR1 hK1 hO1 hS1
    rw [hrow] at hret hd
    dsimp only at hret hd
    have hq : ∀ t : State, t.heap = H1 → xPost E v mF (xcs E av).toArray s (.returned (v.map (xc E))) t := fun t ht => ⟨rfl, ⟨by rw [ht]; exact hR1, hK1, hO1⟩, hS1.F ht⟩
    unfold xret at hret
    split at hret
    · split at hret
      · split at hret
        · next hrr =>
          cases hret
          exact W.vret hx hb (hr.trans hrr) (fun t ht _ => hq t ht) hS1.2.2 hd
        · cases hret
      · cases hret
    · split at hret
      · split at hret
        · next hrr =>
          cases hret
          exact W.iret hx hb (hr.trans hrr) (fun t ht _ => hq t ht) hS1.2.2 hd
        · next hrr =>
          split at hret
          · next hv =>
            cases hret
            exact W.zret hx hb (hr.trans hrr) (congrArg Value.int hv) (fun t ht _ => hq t ht) hS1.2.2 hd
          · cases hret
        · next hrr =>
          split at hret
          · next hv =>
            cases hret
            exact W.zret hx hb (hr.trans hrr) (congrArg Value.int hv) (fun t ht _ => hq t ht) hS1.2.2 hd
          · cases hret
        · cases hret
      · cases hret
    · split at hret
      · split at hret
        · next hrr =>
          cases hret
          exact W.lret hx hb (hr.trans hrr) (fun t ht _ => hq t ht) hS1.2.2 hd
        · cases hret
      · cases hret
    · split at hret
      · split at hret
        · next hrr =>
          cases hret
          exact W.aret hx hb (hr.trans hrr) (Or.inl ⟨_, rfl⟩) (Or.inr ⟨_, rfl⟩) (fun t ht _ => hq t ht) hS1.2.2 hd
        · next hrr =>
          cases hret
          exact W.aret hx hb (hr.trans hrr) (Or.inr ⟨_, rfl⟩) (Or.inr ⟨_, rfl⟩) (fun t ht _ => hq t ht) hS1.2.2 hd
        · cases hret
      · cases hret
    · cases hret
section XRA
variable {p : Program} {l : Launch} {e : Env} {R : Room} {s : State} {mm : MethodId} {args : Array Value} {below : List Frame} {meth : Method} {c : Code} {H H0 : Heap} {locs : List Loc} {Q : State → Prop} {ls : Array Slot} {E : XE} {m m' mF : XM} {cells slots mc ms pc : Nat} {rest st0 : List Value} {a : Array Value} {v : Option Value}
theorem x_callk (hr : va_Run p l e R s mm args below meth c H locs cells slots mc ms (F0 mm pc ls st0) rest (xPost E v m' a) (xA E)) (hS : va_S (xA E) H0 H locs)
    (kk : ∀ (H1 : Heap) (locs1 : List Loc), xRep E m' H1 → xKn m' → xOld m' → va_S (xA E) H0 H1 locs1 → W p l e R s mm args below meth c H1 locs1 (cells + mc) (slots + ms) Q (F0 mm (pc + 3) ls ((v.map (xc E)).toList ++ rest))) : W p l e R s mm args below meth c H locs cells slots Q (F0 mm pc ls st0) := by
  intro T hT X
  obtain ⟨v9, st₀, t, T', L, h0, X', hL, e1, e2, ⟨hv, ⟨hRt, hKt, hOt⟩, hz, hk⟩, st⟩ := hr T hT X
  cases hv
  rw [h0] at hz hk
  obtain ⟨t2, a1, b1⟩ := kk T'.heap (locs ++ L) (by rw [e1]; exact hRt) hKt hOt
    ⟨Nat.le_trans hS.1 (by rw [e1]; exact hz), fun q h1 h2 => by rw [e1, hk q (Nat.lt_of_lt_of_le h1 hS.1) h2]; exact hS.2.1 q h1 h2, fun q hq => by
      rcases List.mem_append.mp hq with h | h
      · exact hS.2.2 q h
      · exact hL q h⟩ T' rfl X'
  exact ⟨t2, st t2 a1, b1⟩
end XRA
