/-! one step of a method's run holds of the machine -/
theorem xs6_m {i : Instr} {a b : Nat} {st st' : List Value} {m m' : XM} (h : xs6 i a b st m = some (st', m')) : m'.2.2.2 = m.2.2.2 := by
  unfold xs6 at h
  split at h
  · split at h
    · split at h <;> cases h; rfl
    · cases h
  · split at h
    · split at h
      · split at h
        · next hp => cases h; exact (xput_same hp).1.1
        · cases h
      · cases h
    · cases h
  all_goals first
    | (cases h; done)
    | (split at h
       · split at h <;> cases h; rfl
       · cases h)
theorem xs7_m {i : Instr} {st st' : List Value} {m m' : XM} (h : xs7 i st m = some (st', m')) : m'.2.2.2 = m.2.2.2 := by
  unfold xs7 at h
  split at h
  · split at h
    · split at h <;> cases h; rfl
    · cases h
  · split at h
    · split at h <;> cases h; rfl
    · cases h
  · split at h
    · split at h
      · split at h
        · cases h; rfl
        · split at h <;> cases h; rfl
      · cases h
    · cases h
  · split at h
    · split at h <;> cases h; rfl
    · cases h
  · split at h
    · split at h <;> cases h; rfl
    · cases h
  · cases h
def xmle (m m' : XM) : Prop := xn m ≤ xn m' ∧ xw m ≤ xw m'
theorem xmle.rf {m : XM} : xmle m m := ⟨Nat.le_refl _, Nat.le_refl _⟩
theorem xmle.tr {m m' m'' : XM} (h : xmle m m') (h' : xmle m' m'') : xmle m m'' := ⟨Nat.le_trans h.1 h'.1, Nat.le_trans h.2 h'.2⟩
theorem xmle.eq {m m' : XM} (h : m'.2.2.2 = m.2.2.2) : xmle m m' := ⟨Nat.le_of_eq (congrArg (fun q => q.2.1) h).symm, Nat.le_of_eq (congrArg (fun q => q.2.2) h).symm⟩
theorem xs8_m {i : Instr} {a b : Nat} {st st' : List Value} {m m' : XM} (h : xs8 i a b st m = some (st', m')) : xmle m m' := by
  have hn : ∀ t len, xmle m (xnew m t len) := fun t len => ⟨Nat.le_succ _, Nat.le_add_right _ _⟩
  unfold xs8 at h
  split at h
  · split at h
    · split at h
      · cases h
      · split at h <;> cases h; exact hn _ _
    · cases h
  · split at h
    · split at h
      · cases h
      · split at h <;> cases h; exact hn _ _
    · cases h
  · cases h; exact hn _ _
  · split at h
    · split at h <;> cases h; exact xmle.rf
    · cases h
  · cases h
theorem xs12_m {i : Instr} {a b : Nat} {st st' : List Value} {m m' : XM} (h : xs12 i a b st m = some (st', m')) : m'.2.2.2 = m.2.2.2 := by
  unfold xs12 at h
  split at h
  · split at h
    · split at h
      · split at h
        · split at h
          · cases h; rfl
          · split at h
            · cases h; rfl
            · cases h
        · cases h
      · cases h
    · cases h
  · cases h
/-- the old cells' kinds -/
def xOld (m : XM) : Prop := ∀ k, k < x0 → (xsh m k).1 ≤ 101
theorem xOld.eq {m m' : XM} (h : m'.2.2.2 = m.2.2.2) (hO : xOld m) : xOld m' := by
  intro k hk
  rw [show xsh m' = xsh m from congrArg (fun q => q.1) h]
  exact hO k hk
theorem xOld.nw {m : XM} {t len : Nat} (h0 : x0 ≤ xn m) (hO : xOld m) : xOld (xnew m t len) := by
  intro k hk
  rw [show xsh (xnew m t len) k = xsh m k from if_neg (by omega)]
  exact hO k hk
theorem xsim_mono {w : XRow} {x : XI} {lv lv' : List (Nat × Value)} {st st' : List Value} {m m' : XM} (h : xsim w x lv st m = some (lv', st', m')) : xmle m m' := by
  unfold xsim at h
  split at h
  · cases h; exact xmle.rf
  · split at h
    · next hq => cases h; exact .eq (xs6_m hq)
    · split at h
      · cases h; exact xmle.rf
      · split at h
        · cases h; exact xmle.rf
        · split at h
          · next hq => cases h; exact .eq (xs7_m hq)
          · split at h
            · cases h; exact xmle.rf
            · split at h
              · cases h; exact xmle.rf
              · split at h
                · next hq => cases h; exact xs8_m hq
                · split at h
                  · cases h; exact xmle.rf
                  · split at h
                    · cases h; exact xmle.rf
                    · split at h
                      · cases h; exact xmle.rf
                      · split at h
                        · next hq => cases h; exact .eq (xs12_m hq)
                        · split at h
                          · cases h; exact xmle.rf
                          · cases h
theorem xsim_nsw {w : XRow} {x : XI} {lv : List (Nat × Value)} {st : List Value} {m : XM} (hs : xisw x.2.1 = true) : xsim w x lv st m = none := by
  obtain ⟨pc, i, a, b, c⟩ := x
  cases i <;> first | (cases hs; done) | rfl
theorem xblt8 {n : Nat} (h : Nat.blt 8 n = false) : n ≤ 8 := by
  by_cases h7 : n ≤ 8
  · exact h7
  · rw [show Nat.blt 8 n = true from Nat.ble_eq_true_of_le (by omega)] at h
    cases h
theorem xroomc {m mF : XM} {a len nE wE Rc Rs : Nat} (h : xmle (xnew m a len) mF) (h1 : nE ≤ xn m) (h2 : wE ≤ xw m) (h3 : xn mF - nE ≤ Rc) (h4 : xw mF - wE ≤ Rs) : xn m - nE + 1 ≤ Rc ∧ xw m - wE + len ≤ Rs := by
  have h5 : xn m + 1 ≤ xn mF := h.1
  have h6 : xw m + len ≤ xw mF := h.2
  omega
theorem xJS_w {w : Cond} (h : xsub tables_1 [w] = true) : w ∈ tables_1 := xsub_in _ _ h _ List.mem_cons_self
theorem xJ_static : Cond.static Lib.Math.max.name ∈ tables_1 ∧ Cond.static Lib.Math.min.name ∈ tables_1 ∧ Cond.static Lib.Math.abs.name ∈ tables_1 ∧ Cond.static Lib.MathLoose.max_long.x ∈ tables_1 ∧ Cond.static Lib.MathLoose.min_long.x ∈ tables_1 ∧ Cond.static Lib.MathLoose.abs_long.x ∈ tables_1 :=
  ⟨xJS_w (by decide +kernel), xJS_w (by decide +kernel), xJS_w (by decide +kernel), xJS_w (by decide +kernel), xJS_w (by decide +kernel), xJS_w (by decide +kernel)⟩
theorem xJ_code : Cond.code Lib.Math.max.name Lib.Math.max.code 2 (some .int) ∈ tables_1 ∧ Cond.code Lib.Math.min.name Lib.Math.min.code 2 (some .int) ∈ tables_1 ∧ Cond.code Lib.Math.abs.name Lib.Math.abs.code 1 (some .int) ∈ tables_1 ∧ Cond.code Lib.MathLoose.max_long.x Lib.MathLoose.max_long.code 4 (some .long) ∈ tables_1 ∧ Cond.code Lib.MathLoose.min_long.x Lib.MathLoose.min_long.code 4 (some .long) ∈ tables_1 ∧ Cond.code Lib.MathLoose.abs_long.x Lib.MathLoose.abs_long.code 2 (some .long) ∈ tables_1 :=
  ⟨xJS_w (by decide +kernel), xJS_w (by decide +kernel), xJS_w (by decide +kernel), xJS_w (by decide +kernel), xJS_w (by decide +kernel), xJS_w (by decide +kernel)⟩
theorem xJ_init : Cond.initialized "java/lang/Math" ∈ tables_1 := xJS_w (by decide +kernel)
def xStat (E : XE) (U : State) (H : Heap) : Prop := (∀ k, 1 ≤ k → k ≤ 5 → va_Z (xgs k).1 (xgs k).2.1 (xgs k).2.2 (.ref (xad E k)) (xA E) U H) ∧ ∀ i, i < 29 → vk_R (tsc i) (tsi i) (tst i) (xad E (10 + i)) U ∧ ∃ v, tX (xA E) (xad E (10 + i)) v (tsb i).length (tsf i) U
theorem xStat.to {E : XE} {s U : State} {H : Heap} {locs : List Loc} (h : xStat E s s.heap) (hW : s.WarmedH U.vm) (hS : va_S (xA E) s.heap H locs) (hU : U.heap = H) : xStat E U U.heap := by
  refine ⟨fun k h1 h2 => ?_, fun i hi => ?_⟩
  · rw [hU]
    exact ((h.1 k h1 h2).kept fun a h3 h4 => hS.2.1 a h3 h4).moved hW.alike
  · obtain ⟨h1, v, h2⟩ := h.2 i hi
    exact ⟨h1.warm hW, v, h2.to hW hS hU⟩
section XTA
variable {p : Program} {l : Launch} {e : Env} {R : Room} {s : State} {mm : MethodId} {args : Array Value} {below : List Frame} {meth : Method} {c : Code} {H H0 : Heap} {locs : List Loc} {Q : State → Prop} {ls : Array Slot} {E : XE} {st st' : List Value} {m m' mF : XM} {w : XRow} {x : XI} {lv lv' : List (Nat × Value)} {nE wE len : Nat}
theorem xs10_ok {a b own : Nat} {n : Int} {i : Instr} {pc cells slots : Nat} (hx : p.tables.exec = Jvm.exec) {cc : ByteArray} (hb : c.code = cc) (hts : ∀ z ∈ xW, z.before args s = true) (hown : s.vm.findClass (xcn own) = some mm.cls) (h : xs10 i a b st = some st') (hd : decode cc pc = .ok (i, xlen i)) (hsz : c.maxLocals = ls.size)
    (hfr : 1 ≤ R.frames) (hlo : 50 ≤ R.locals) (hc : cells ≤ R.cells) (hs : slots ≤ R.slots) (hk : xOkY own (pc, i, a, b, n) = true)
    (k : W p l e R s mm args below meth c H locs cells slots Q (F0 mm (pc + xlen i) ls (xcs E st'))) : W p l e R s mm args below meth c H locs cells slots Q (F0 mm pc ls (xcs E st)) := by
  have hroom : ∀ r : List Value, Nat.blt 8 (xcats r) = false → ((xcs E r).map fun v => v.category).sum + 15 ≤ R.locals := fun r h8 => by
    rw [xcs_cats]
    have := xblt8 h8
    omega
  have hw : ∀ {z : Cond}, z ∈ tables_1 → goodWord z = true → z.before args s = true := fun h1 h2 => hts _ (xW_of h1 h2)
  have hlk : ∀ idx, i = .invokestatic idx → a = 999 → b ≤ 16 → (Cond.methodLink (xcn own) idx (xjn b)).before args s = true := fun idx h1 h2 h3 => by
    subst h1
    unfold xOkY at hk
    dsimp only at hk
    rw [if_pos ⟨h2, h3⟩, List.contains_iff_mem] at hk
    exact hw (x_in (fun e : Nat × Nat × Nat => Cond.methodLink (xcn e.1) e.2.1 (xjn e.2.2)) xJM_ok hk) rfl
  unfold xs10 at h
  split at h
  · split at h
    · next ha =>
      split at h
      · split at h
        · split at h
          · next h8 => cases h; exact va_mmax hx hb hsz hown (hlk _ rfl ha (by decide)) (hw xJ_static.1 rfl) (hw xJ_init rfl) (hw xJ_code.1 rfl) hfr (by have := hroom _ h8; show (List.map (fun v => v.category) (xcs E _)).sum + _ ≤ _; omega) hc hs hd k
          · cases h
        · cases h
      · split at h
        · split at h
          · next h8 => cases h; exact va_mmin hx hb hsz hown (hlk _ rfl ha (by decide)) (hw xJ_static.2.1 rfl) (hw xJ_init rfl) (hw xJ_code.2.1 rfl) hfr (by have := hroom _ h8; show (List.map (fun v => v.category) (xcs E _)).sum + _ ≤ _; omega) hc hs hd k
          · cases h
        · cases h
      · split at h
        · split at h
          · next h8 => cases h; exact va_mabs hx hb hsz hown (hlk _ rfl ha (by decide)) (hw xJ_static.2.2.1 rfl) (hw xJ_init rfl) (hw xJ_code.2.2.1 rfl) hfr (by have := hroom _ h8; show (List.map (fun v => v.category) (xcs E _)).sum + _ ≤ _; omega) hc hs hd k
          · cases h
        · cases h
      · split at h
        · split at h
          · next h8 => cases h; exact va_mmax_long hx hb hsz hown (hlk _ rfl ha (by decide)) (hw xJ_static.2.2.2.1 rfl) (hw xJ_init rfl) (hw xJ_code.2.2.2.1 rfl) hfr (by have := hroom _ h8; show (List.map (fun v => v.category) (xcs E _)).sum + _ ≤ _; omega) hc hs hd k
          · cases h
        · cases h
      · split at h
        · split at h
          · next h8 => cases h; exact va_mmin_long hx hb hsz hown (hlk _ rfl ha (by decide)) (hw xJ_static.2.2.2.2.1 rfl) (hw xJ_init rfl) (hw xJ_code.2.2.2.2.1 rfl) hfr (by have := hroom _ h8; show (List.map (fun v => v.category) (xcs E _)).sum + _ ≤ _; omega) hc hs hd k
          · cases h
        · cases h
      · split at h
        · split at h
          · next h8 => cases h; exact va_mabs_long hx hb hsz hown (hlk _ rfl ha (by decide)) (hw xJ_static.2.2.2.2.2 rfl) (hw xJ_init rfl) (hw xJ_code.2.2.2.2.2 rfl) hfr (by have := hroom _ h8; show (List.map (fun v => v.category) (xcs E _)).sum + _ ≤ _; omega) hc hs hd k
          · cases h
        · cases h
      · cases h
    · cases h
  · cases h
theorem xcopyI (hx : p.tables.exec = Jvm.exec) {cc : ByteArray} (hb : c.code = cc) (hml : c.maxLocals = ls.size) {own idx pc ks kd cells slots : Nat} {r : List Value} {sp dp n : Int32} (hown : s.vm.findClass (xcn own) = some mm.cls) (hlink : (Cond.methodLink (xcn own) idx arraycopyName).before args s = true) (hnat : (Cond.native arraycopyName).before args s = true) (hstat : (Cond.static arraycopyName).before args s = true) (hini : (Cond.initialized "java/lang/System").before args s = true)
    (hE : xEnv E s) (hA : xEad E) (hR : xRep E m H) (hK : xKn m) (hS : va_S (xA E) H0 H locs) (h0 : x0 ≤ kd ∧ kd < xn m ∧ ks < xn m) (h1 : ¬ n < 0 ∧ ¬ sp < 0 ∧ ¬ dp < 0) (h4 : sp.toNatClampNeg + n.toNatClampNeg ≤ (xsh m ks).2) (h5 : dp.toNatClampNeg + n.toNatClampNeg ≤ (xsh m kd).2) (ts : (xsh m ks).1 = 100) (td : (xsh m kd).1 = 100)
    (hfr : 1 ≤ R.frames) (hlo : (r.map fun v => v.category).sum + (nativeFrameWords "java/lang/System" "arraycopy" 5 + 11) ≤ R.locals) (hd : decode cc pc = .ok (.invokestatic idx, 3))
    (kk : ∀ (H1 : Heap) (locs1 : List Loc), xRep E (xcpI m ks kd sp.toNatClampNeg dp.toNatClampNeg n.toNatClampNeg) H1 → xKn (xcpI m ks kd sp.toNatClampNeg dp.toNatClampNeg n.toNatClampNeg) → va_S (xA E) H0 H1 locs1 → W p l e R s mm args below meth c H1 locs1 cells slots Q (F0 mm (pc + 3) ls r)) :
    W p l e R s mm args below meth c H locs cells slots Q (F0 mm pc ls (.int n :: .int dp :: .ref (xad E kd) :: .int sp :: .ref (xad E ks) :: r)) := by
  have nn : ∀ z : Int32, ¬ z < 0 → z.toInt = (z.toNatClampNeg : Int) := by
    intro z hz
    have hz0 : (0 : Int) ≤ z.toInt := by
      have := Int32.not_lt.mp hz
      simpa using Int32.le_iff_toInt_le.mp this
    show z.toInt = ((z.toInt.toNat : Nat) : Int)
    omega
  intro T hT X
  obtain ⟨cs, c1, c2, c3, ⟨c4, -⟩, c5⟩ := xarr hR hE hK h0.2.2 (by omega)
  rw [ts] at c2
  have hc1 := xnewcell hR ⟨h0.1, h0.2.1⟩ (by omega)
  have hg : (fun j => xel E m kd j) = fun j => Value.int (m.1 kd j) := by
    funext j
    unfold xel
    rw [td]
    rfl
  rw [hg, td] at hc1
  have hf : ∀ j, j < (xsh m ks).2 → cs.slots[j]? = some (Value.int (m.1 ks j)) := fun j hj => by
    rw [c5 j hj]
    unfold xel
    rw [ts]
    rfl
  obtain ⟨hs6, k0, hk0, cm0, hkk0⟩ := c2
  obtain ⟨-, k1, hk1, cm1, hkk1⟩ := (xarrOf hE (t := 100) (by decide)).1 (xsh m kd).2 (fun j => Value.int (m.1 kd j))
  obtain ⟨vm', X', step⟩ := X.arraycopy hx hown hlink hnat hstat hini (src := xad E ks) (dst := xad E kd) (cs := cs) (cd := arrV (E.2.1 100) (xsh m kd).2 (fun j => Value.int (m.1 kd j))) (srcPos := sp) (destPos := dp) (n := n) (by rw [hT]; exact c1) (by rw [hT]; exact hc1)
    hs6 (fun _ h => by cases h) c3 (fun h => by cases h) hk0 hk1 hkk0 hkk1 (by simp [xaty, refKind]) h1.2.1 h1.2.2 h1.1
    (by rw [nn sp h1.2.1, nn n h1.1]; omega)
    (by rw [nn dp h1.2.2, nn n h1.1, arrV_size]; omega)
    (fun vm₁ _ i hi => by
      have e : cs.slots.getD (sp.toNatClampNeg + i) .null = Value.int (m.1 ks (sp.toNatClampNeg + i)) := by
        rw [Array.getD_eq_getD_getElem?, hf _ (by omega)]
        rfl
      refine ⟨?_, ?_⟩
      · rw [e]
        rfl
      · rw [e]
        exact trivial)
    (g := F0 mm pc ls (.int n :: .int dp :: .ref (xad E kd) :: .int sp :: .ref (xad E ks) :: r)) rfl (by rw [hml]) (rest := r) rfl (by rw [hb]; exact hd) hfr (by show 2 * 0 + _ + _ ≤ _; omega)
  have e1 : copied cs (arrV (E.2.1 100) (xsh m kd).2 (fun j => Value.int (m.1 kd j))) sp dp n = arrV (E.2.1 100) (xsh m kd).2 (fun j => Value.int (va_cpy (m.1 ks) (m.1 kd) sp.toNatClampNeg dp.toNatClampNeg n.toNatClampNeg j)) := va_copiedX (fun z => Value.int z) cs (E.2.1 100) (m.1 ks) (m.1 kd) hf h4
  rw [e1] at X' step
  have hl : xad E kd < H.size := (Array.getElem?_eq_some_iff.mp hc1).1
  have hheap : ((T.setVm vm').setCell (xad E kd) (arrV (E.2.1 100) (xsh m kd).2 (fun j => Value.int (va_cpy (m.1 ks) (m.1 kd) sp.toNatClampNeg dp.toNatClampNeg n.toNatClampNeg j)))).heap = H.setIfInBounds (xad E kd) (arrV (E.2.1 100) (xsh m kd).2 (fun j => Value.int (va_cpy (m.1 ks) (m.1 kd) sp.toNatClampNeg dp.toNatClampNeg n.toNatClampNeg j))) := by rw [← hT]; rfl
  have oq : ∀ q : Nat, q ≠ xad E kd → (H.setIfInBounds (xad E kd) (arrV (E.2.1 100) (xsh m kd).2 (fun j => Value.int (va_cpy (m.1 ks) (m.1 kd) sp.toNatClampNeg dp.toNatClampNeg n.toNatClampNeg j))))[q]? = H[q]? := fun q hq => by simp [Array.getElem?_setIfInBounds, Ne.symm hq]
  have hs : xSame kd m (xcpI m ks kd sp.toNatClampNeg dp.toNatClampNeg n.toNatClampNeg) := ⟨rfl, fun a ha j => by
    have h9 : xcpF m.1 ks kd sp.toNatClampNeg dp.toNatClampNeg n.toNatClampNeg a = m.1 a := if_neg ha
    exact ⟨congrFun h9 j, rfl, rfl⟩⟩
  have hc : xcell E (xcpI m ks kd sp.toNatClampNeg dp.toNatClampNeg n.toNatClampNeg) kd (H.setIfInBounds (xad E kd) (arrV (E.2.1 100) (xsh m kd).2 (fun j => Value.int (va_cpy (m.1 ks) (m.1 kd) sp.toNatClampNeg dp.toNatClampNeg n.toNatClampNeg j)))) := by
    unfold xcell
    rw [show xsh (xcpI m ks kd sp.toNatClampNeg dp.toNatClampNeg n.toNatClampNeg) = xsh m from rfl, if_neg (by omega), td]
    have h9 : (fun j => xel E (xcpI m ks kd sp.toNatClampNeg dp.toNatClampNeg n.toNatClampNeg) kd j) = fun j => Value.int (va_cpy (m.1 ks) (m.1 kd) sp.toNatClampNeg dp.toNatClampNeg n.toNatClampNeg j) := by
      funext j
      unfold xel
      rw [show xsh (xcpI m ks kd sp.toNatClampNeg dp.toNatClampNeg n.toNatClampNeg) = xsh m from rfl, td]
      show Value.int (xcpF m.1 ks kd sp.toNatClampNeg dp.toNatClampNeg n.toNatClampNeg kd j) = _
      unfold xcpF
      rw [if_pos rfl]
    rw [h9]
    simp [Array.getElem?_setIfInBounds, hl]
  obtain ⟨t, a1, b1⟩ := kk _ _ (xRep_set hR hA h0.1 hs (by simp) oq hc) (xKn_same hs hK) ⟨by simp; exact hS.1, fun q g1 g2 => by
      rw [oq q (fun e => g2 (by rw [e]; exact xA_ad hA h0.1))]
      exact hS.2.1 q g1 g2, fun q hq => by
      rcases List.mem_append.mp hq with h | h
      · exact hS.2.2 q h
      · obtain ⟨z, -, hz⟩ := List.mem_map.mp h
        rw [← hz]
        exact xA_ad hA h0.1⟩ _ hheap X'
  exact ⟨t, step t a1, b1⟩
theorem xcopyL (hx : p.tables.exec = Jvm.exec) {cc : ByteArray} (hb : c.code = cc) (hml : c.maxLocals = ls.size) {own idx pc ks kd cells slots : Nat} {r : List Value} {sp dp n : Int32} (hown : s.vm.findClass (xcn own) = some mm.cls) (hlink : (Cond.methodLink (xcn own) idx arraycopyName).before args s = true) (hnat : (Cond.native arraycopyName).before args s = true) (hstat : (Cond.static arraycopyName).before args s = true) (hini : (Cond.initialized "java/lang/System").before args s = true)
    (hE : xEnv E s) (hA : xEad E) (hR : xRep E m H) (hK : xKn m) (hS : va_S (xA E) H0 H locs) (h0 : x0 ≤ kd ∧ kd < xn m ∧ ks < xn m) (h1 : ¬ n < 0 ∧ ¬ sp < 0 ∧ ¬ dp < 0) (h4 : sp.toNatClampNeg + n.toNatClampNeg ≤ (xsh m ks).2) (h5 : dp.toNatClampNeg + n.toNatClampNeg ≤ (xsh m kd).2) (ts : (xsh m ks).1 = 101) (td : (xsh m kd).1 = 101)
    (hfr : 1 ≤ R.frames) (hlo : (r.map fun v => v.category).sum + (nativeFrameWords "java/lang/System" "arraycopy" 5 + 11) ≤ R.locals) (hd : decode cc pc = .ok (.invokestatic idx, 3))
    (kk : ∀ (H1 : Heap) (locs1 : List Loc), xRep E (xcpL m ks kd sp.toNatClampNeg dp.toNatClampNeg n.toNatClampNeg) H1 → xKn (xcpL m ks kd sp.toNatClampNeg dp.toNatClampNeg n.toNatClampNeg) → va_S (xA E) H0 H1 locs1 → W p l e R s mm args below meth c H1 locs1 cells slots Q (F0 mm (pc + 3) ls r)) :
    W p l e R s mm args below meth c H locs cells slots Q (F0 mm pc ls (.int n :: .int dp :: .ref (xad E kd) :: .int sp :: .ref (xad E ks) :: r)) := by
  have nn : ∀ z : Int32, ¬ z < 0 → z.toInt = (z.toNatClampNeg : Int) := by
    intro z hz
    have hz0 : (0 : Int) ≤ z.toInt := by
      have := Int32.not_lt.mp hz
      simpa using Int32.le_iff_toInt_le.mp this
    show z.toInt = ((z.toInt.toNat : Nat) : Int)
    omega
  intro T hT X
  obtain ⟨cs, c1, c2, c3, ⟨c4, -⟩, c5⟩ := xarr hR hE hK h0.2.2 (by omega)
  rw [ts] at c2
  have hc1 := xnewcell hR ⟨h0.1, h0.2.1⟩ (by omega)
  have hg : (fun j => xel E m kd j) = fun j => Value.long (m.2.1 kd j) := by
    funext j
    unfold xel
    rw [td]
    rfl
  rw [hg, td] at hc1
  have hf : ∀ j, j < (xsh m ks).2 → cs.slots[j]? = some (Value.long (m.2.1 ks j)) := fun j hj => by
    rw [c5 j hj]
    unfold xel
    rw [ts]
    rfl
  obtain ⟨hs6, k0, hk0, cm0, hkk0⟩ := c2
  obtain ⟨-, k1, hk1, cm1, hkk1⟩ := (xarrOf hE (t := 101) (by decide)).1 (xsh m kd).2 (fun j => Value.long (m.2.1 kd j))
  obtain ⟨vm', X', step⟩ := X.arraycopy hx hown hlink hnat hstat hini (src := xad E ks) (dst := xad E kd) (cs := cs) (cd := arrV (E.2.1 101) (xsh m kd).2 (fun j => Value.long (m.2.1 kd j))) (srcPos := sp) (destPos := dp) (n := n) (by rw [hT]; exact c1) (by rw [hT]; exact hc1)
    hs6 (fun _ h => by cases h) c3 (fun h => by cases h) hk0 hk1 hkk0 hkk1 (by simp [xaty, refKind]) h1.2.1 h1.2.2 h1.1
    (by rw [nn sp h1.2.1, nn n h1.1]; omega)
    (by rw [nn dp h1.2.2, nn n h1.1, arrV_size]; omega)
    (fun vm₁ _ i hi => by
      have e : cs.slots.getD (sp.toNatClampNeg + i) .null = Value.long (m.2.1 ks (sp.toNatClampNeg + i)) := by
        rw [Array.getD_eq_getD_getElem?, hf _ (by omega)]
        rfl
      refine ⟨?_, ?_⟩
      · rw [e]
        rfl
      · rw [e]
        exact trivial)
    (g := F0 mm pc ls (.int n :: .int dp :: .ref (xad E kd) :: .int sp :: .ref (xad E ks) :: r)) rfl (by rw [hml]) (rest := r) rfl (by rw [hb]; exact hd) hfr (by show 2 * 0 + _ + _ ≤ _; omega)
  have e1 : copied cs (arrV (E.2.1 101) (xsh m kd).2 (fun j => Value.long (m.2.1 kd j))) sp dp n = arrV (E.2.1 101) (xsh m kd).2 (fun j => Value.long (va_cpy (m.2.1 ks) (m.2.1 kd) sp.toNatClampNeg dp.toNatClampNeg n.toNatClampNeg j)) := va_copiedX (fun z => Value.long z) cs (E.2.1 101) (m.2.1 ks) (m.2.1 kd) hf h4
  rw [e1] at X' step
  have hl : xad E kd < H.size := (Array.getElem?_eq_some_iff.mp hc1).1
  have hheap : ((T.setVm vm').setCell (xad E kd) (arrV (E.2.1 101) (xsh m kd).2 (fun j => Value.long (va_cpy (m.2.1 ks) (m.2.1 kd) sp.toNatClampNeg dp.toNatClampNeg n.toNatClampNeg j)))).heap = H.setIfInBounds (xad E kd) (arrV (E.2.1 101) (xsh m kd).2 (fun j => Value.long (va_cpy (m.2.1 ks) (m.2.1 kd) sp.toNatClampNeg dp.toNatClampNeg n.toNatClampNeg j))) := by rw [← hT]; rfl
  have oq : ∀ q : Nat, q ≠ xad E kd → (H.setIfInBounds (xad E kd) (arrV (E.2.1 101) (xsh m kd).2 (fun j => Value.long (va_cpy (m.2.1 ks) (m.2.1 kd) sp.toNatClampNeg dp.toNatClampNeg n.toNatClampNeg j))))[q]? = H[q]? := fun q hq => by simp [Array.getElem?_setIfInBounds, Ne.symm hq]
  have hs : xSame kd m (xcpL m ks kd sp.toNatClampNeg dp.toNatClampNeg n.toNatClampNeg) := ⟨rfl, fun a ha j => by
    have h9 : xcpF m.2.1 ks kd sp.toNatClampNeg dp.toNatClampNeg n.toNatClampNeg a = m.2.1 a := if_neg ha
    exact ⟨rfl, congrFun h9 j, rfl⟩⟩
  have hc : xcell E (xcpL m ks kd sp.toNatClampNeg dp.toNatClampNeg n.toNatClampNeg) kd (H.setIfInBounds (xad E kd) (arrV (E.2.1 101) (xsh m kd).2 (fun j => Value.long (va_cpy (m.2.1 ks) (m.2.1 kd) sp.toNatClampNeg dp.toNatClampNeg n.toNatClampNeg j)))) := by
    unfold xcell
    rw [show xsh (xcpL m ks kd sp.toNatClampNeg dp.toNatClampNeg n.toNatClampNeg) = xsh m from rfl, if_neg (by omega), td]
    have h9 : (fun j => xel E (xcpL m ks kd sp.toNatClampNeg dp.toNatClampNeg n.toNatClampNeg) kd j) = fun j => Value.long (va_cpy (m.2.1 ks) (m.2.1 kd) sp.toNatClampNeg dp.toNatClampNeg n.toNatClampNeg j) := by
      funext j
      unfold xel
      rw [show xsh (xcpL m ks kd sp.toNatClampNeg dp.toNatClampNeg n.toNatClampNeg) = xsh m from rfl, td]
      show Value.long (xcpF m.2.1 ks kd sp.toNatClampNeg dp.toNatClampNeg n.toNatClampNeg kd j) = _
      unfold xcpF
      rw [if_pos rfl]
    rw [h9]
    simp [Array.getElem?_setIfInBounds, hl]
  obtain ⟨t, a1, b1⟩ := kk _ _ (xRep_set hR hA h0.1 hs (by simp) oq hc) (xKn_same hs hK) ⟨by simp; exact hS.1, fun q g1 g2 => by
      rw [oq q (fun e => g2 (by rw [e]; exact xA_ad hA h0.1))]
      exact hS.2.1 q g1 g2, fun q hq => by
      rcases List.mem_append.mp hq with h | h
      · exact hS.2.2 q h
      · obtain ⟨z, -, hz⟩ := List.mem_map.mp h
        rw [← hz]
        exact xA_ad hA h0.1⟩ _ hheap X'
  exact ⟨t, step t a1, b1⟩
theorem xJ_copy : Cond.native arraycopyName ∈ tables_1 ∧ Cond.static arraycopyName ∈ tables_1 ∧ Cond.initialized "java/lang/System" ∈ tables_1 := ⟨xJS_w (by decide +kernel), xJS_w (by decide +kernel), xJS_w (by decide +kernel)⟩
theorem xs12_ok {a b own : Nat} {n : Int} {i : Instr} {pc cells slots : Nat} (hx : p.tables.exec = Jvm.exec) {cc : ByteArray} (hb : c.code = cc) (hts : ∀ z ∈ xW, z.before args s = true) (hown : s.vm.findClass (xcn own) = some mm.cls) (hE : xEnv E s) (hA : xEad E) (hR : xRep E m H) (hK : xKn m) (hS : va_S (xA E) H0 H locs) (h : xs12 i a b st m = some (st', m')) (hd : decode cc pc = .ok (i, xlen i)) (hsz : c.maxLocals = ls.size)
    (hfr : 1 ≤ R.frames) (hlo : 50 ≤ R.locals) (hk : xOkY own (pc, i, a, b, n) = true)
    (kk : ∀ (H1 : Heap) (locs1 : List Loc), xRep E m' H1 → xKn m' → va_S (xA E) H0 H1 locs1 → W p l e R s mm args below meth c H1 locs1 cells slots Q (F0 mm (pc + xlen i) ls (xcs E st'))) : W p l e R s mm args below meth c H locs cells slots Q (F0 mm pc ls (xcs E st)) := by
  have hw : ∀ {z : Cond}, z ∈ tables_1 → goodWord z = true → z.before args s = true := fun h1 h2 => hts _ (xW_of h1 h2)
  have hroom : ∀ r : List Value, Nat.blt 8 (xcats r) = false → ((xcs E r).map fun v => v.category).sum + (nativeFrameWords "java/lang/System" "arraycopy" 5 + 11) ≤ R.locals := fun r h8 => by
    rw [xcs_cats]
    have := xblt8 h8
    have h9 : nativeFrameWords "java/lang/System" "arraycopy" 5 + 11 ≤ 42 := by decide +kernel
    omega
  unfold xs12 at h
  split at h
  · next idx =>
    split at h
    · next ha =>
      have hlk : (Cond.methodLink (xcn own) idx arraycopyName).before args s = true := by
        obtain ⟨rfl, rfl⟩ := ha
        unfold xOkY at hk
        dsimp only at hk
        rw [if_neg (by decide), if_pos ⟨rfl, rfl⟩, List.contains_iff_mem] at hk
        exact hw (x_in (fun e : Nat × Nat => Cond.methodLink (xcn e.1) e.2 arraycopyName) xSC_ok hk) rfl
      split at h
      · split at h
        · next hc =>
          obtain ⟨g0, g1, g2, g3, g4⟩ := hc
          split at h
          · next ht =>
            cases h
            exact xcopyI hx hb hsz hown hlk (hw xJ_copy.1 rfl) (hw xJ_copy.2.1 rfl) (hw xJ_copy.2.2 rfl) hE hA hR hK hS g0 g1 g2 g3 ht.1 ht.2 hfr (hroom _ g4) hd kk
          · split at h
            · next ht =>
              cases h
              exact xcopyL hx hb hsz hown hlk (hw xJ_copy.1 rfl) (hw xJ_copy.2.1 rfl) (hw xJ_copy.2.2 rfl) hE hA hR hK hS g0 g1 g2 g3 ht.1 ht.2 hfr (hroom _ g4) hd kk
            · cases h
        · cases h
      · cases h
    · cases h
  · cases h
theorem x_ldcwS (hx : p.tables.exec = Jvm.exec) {cc : ByteArray} (hb : c.code = cc) {own tx : String} {index q pc cells slots : Nat} {rest : List Value} (hown : s.vm.findClass own = some mm.cls) (hZ : vk_R own index tx q s) (hdg : decode cc pc = .ok (.ldc_w index, 3))
    (k : W p l e R s mm args below meth c H locs cells slots Q (F0 mm (pc + 3) ls (.ref q :: rest))) : W p l e R s mm args below meth c H locs cells slots Q (F0 mm pc ls rest) := by
  intro T hT X
  obtain ⟨t, a1, b1⟩ := k T hT X
  obtain ⟨k, cf, i, a', hk, hcf, hcp, -, hr, hev'⟩ := Cond.stringRef_spec hown hZ.1
  cases hZ.2.symm.trans hev'
  obtain ⟨k', hk', he⟩ := X.warmed.alike.2.2 _ _ hk
  have hr' : k'.resolved[index]? = some (some (.string q)) := by
    rcases X.warmed.entry hk hk' index with h | ⟨h, -⟩
    · rw [h]; exact hr
    · rw [hr] at h; cases h
  have hd2 : decode c.code (F0 mm pc ls rest).pc = .ok (.ldc_w index, 3) := by rw [hb]; exact hdg
  refine ⟨t, ?_, b1⟩
  jvm_step X.here [hx, hd2, ldc_w.wp_string (s := T) (f := F0 mm pc ls rest) X.here.top hk' (by rw [he]; exact hcf) hcp hr']
  exact a1
theorem xs13_ok {a b own : Nat} {n : Int} {i : Instr} {pc cells slots : Nat} (hx : p.tables.exec = Jvm.exec) {cc : ByteArray} (hb : c.code = cc) (hts : ∀ z ∈ xW, z.before args s = true) (hown : s.vm.findClass (xcn own) = some mm.cls) (hS : va_S (xA E) s.heap H locs) (hZ : xStat E s s.heap) (h : xs13 i a b st = some st') (hd : decode cc pc = .ok (i, xlen i)) (hsz : c.maxLocals = ls.size)
    (hfr : 5 ≤ R.frames) (hlo : 250 ≤ R.locals) (hc : cells ≤ R.cells) (hs : slots ≤ R.slots) (hk : xOkY own (pc, i, a, b, n) = true)
    (kk : ∀ (locs1 : List Loc), va_S (xA E) s.heap H locs1 → W p l e R s mm args below meth c H locs1 cells slots Q (F0 mm (pc + xlen i) ls (xcs E st'))) : W p l e R s mm args below meth c H locs cells slots Q (F0 mm pc ls (xcs E st)) := by
  have hroom : ∀ r : List Value, Nat.blt 8 (xcats r) = false → ((xcs E r).map fun v => v.category).sum ≤ 8 := fun r h8 => by
    rw [xcs_cats]
    exact xblt8 h8
  have hR : ∀ idx, (tsL.getD (b - 10) (0, 0, "", [])).1 = own → (tsL.getD (b - 10) (0, 0, "", [])).2.1 = idx → 10 ≤ b → b < 39 → vk_R (xcn own) idx (tst (b - 10)) (xad E b) s := fun idx h1 h2 h3 h4 => by
    have h5 := (hZ.2 (b - 10) (by omega)).1
    rw [show 10 + (b - 10) = b by omega] at h5
    rw [← h1, ← h2]
    exact h5
  unfold xs13 at h
  split at h
  · split at h
    · next ha =>
      cases h
      unfold xOkY at hk
      dsimp only at hk
      rw [if_pos ha.1, Bool.and_eq_true, beq_iff_eq, beq_iff_eq] at hk
      exact va_ldcS hx hb hown (hR _ hk.1 hk.2 ha.2.1 ha.2.2) hd (kk locs hS)
    · cases h
  · split at h
    · next ha =>
      cases h
      unfold xOkY at hk
      dsimp only at hk
      rw [if_pos ha.1, Bool.and_eq_true, beq_iff_eq, beq_iff_eq] at hk
      exact x_ldcwS hx hb hown (hR _ hk.1 hk.2 ha.2.1 ha.2.2) hd (kk locs hS)
    · cases h
  · next idx =>
    split at h
    · next ha =>
      subst ha
      unfold xOkY at hk
      dsimp only at hk
      rw [if_pos rfl, List.contains_iff_mem] at hk
      have hlk : Cond.methodLink (xcn own) idx (xtn b) ∈ xW := xW_of (x_in (fun e : Nat × Nat × Nat => Cond.methodLink (xcn e.1) e.2.1 (xtn e.2.2)) xTL_ok hk) rfl
      split at h
      · split at h
        · next q r =>
          split at h
          · next hq =>
            cases h
            have hq1 : @LE.le Nat _ 10 q := hq.1.1
            have hq2 : @LT.lt Nat _ q 39 := hq.1.2
            obtain ⟨-, v, hX⟩ := hZ.2 (q - 10) (by omega)
            rw [show 10 + (q - 10) = q from Nat.add_sub_cancel' hq1] at hX
            exact t_slen hx hb hsz hts hown hlk hX hS (by omega) (by omega) (hroom _ hq.2) hc hs hd kk
          · cases h
        · cases h
      · split at h
        · next j q r =>
          split at h
          · next hq =>
            cases h
            have hq1 : @LE.le Nat _ 10 q := hq.1.1
            have hq2 : @LT.lt Nat _ q 39 := hq.1.2
            obtain ⟨-, v, hX⟩ := hZ.2 (q - 10) (by omega)
            rw [show 10 + (q - 10) = q from Nat.add_sub_cancel' hq1] at hX
            have hj := hq.2.1
            unfold xin at hj
            rw [Bool.and_eq_true, Bool.not_eq_true', decide_eq_false_iff_not] at hj
            have hj2 : j.toNatClampNeg < (tsb (q - 10)).length := Nat.le_of_ble_eq_true hj.2
            obtain ⟨g1, g2, g3⟩ := ts_in (i := q - 10) (by omega) hj.1 hj2
            exact t_schar hj.1 g1 hj2 g2 g3 hx hb hsz hts hown hlk hX hS hfr hlo (hroom _ hq.2.2) hc hs hd kk
          · cases h
        · cases h
      · cases h
    · cases h
  · cases h
theorem xsim_ok (hx : p.tables.exec = Jvm.exec) (hb : c.code = w.2.2.1) (hml : c.maxLocals = w.2.2.2.1) (hts : ∀ z ∈ xW, z.before args s = true) (hown : s.vm.findClass (xcn w.1) = some mm.cls) (hmn : w.2.1.name = "<init>" → meth.name = "<init>") (hE : xEnv E s) (hA : xEad E)
    (hfr5 : 5 ≤ R.frames) (hlo5 : 250 ≤ R.locals) (hc1 : xn mF - nE ≤ R.cells) (hc2 : xw mF - wE ≤ R.slots) (hn1 : nE ≤ xn m) (hn2 : wE ≤ xw m) (hmF : xmle m' mF)
    (hR : xRep E m H) (hK : xKn m) (hO : xOld m) (hS : va_S (xA E) H0 H locs) (hl : lv_has ls w.2.2.2.1 (xlv E lv))
    (h : xsim w x lv st m = some (lv', st', m')) (hd : decode w.2.2.1 x.1 = .ok (x.2.1, len)) (hlen : xisw x.2.1 = true ∨ len = xlen x.2.1) (hok : xOkX w.1 (w.2.1.name == "<init>") x = true) (hoky : xOkY w.1 x = true) (hH0 : H0 = s.heap) (hZ : xStat E s s.heap)
    (kk : ∀ (H1 : Heap) (locs1 : List Loc) (ls1 : Array Slot), xRep E m' H1 → xKn m' → xOld m' → va_S (xA E) H0 H1 locs1 → lv_has ls1 w.2.2.2.1 (xlv E lv') → W p l e R s mm args below meth c H1 locs1 (xn m' - nE) (xw m' - wE) Q (F0 mm (x.1 + len) ls1 (xcs E st'))) :
    W p l e R s mm args below meth c H locs (xn m - nE) (xw m - wE) Q (F0 mm x.1 ls (xcs E st)) := by
  have hfr : 1 ≤ R.frames := Nat.le_trans (by decide) hfr5
  have hlo : 50 ≤ R.locals := Nat.le_trans (by decide) hlo5
  obtain rfl : len = xlen x.2.1 := by
    rcases hlen with h1 | h1
    · rw [xsim_nsw h1] at h; cases h
    · exact h1
  obtain ⟨pc, i, a, b, cc⟩ := x
  dsimp only at *
  unfold xsim at h
  dsimp only at h
  split at h
  · next hq => cases h; exact xs1_ok hx hb hl hq hd (kk H locs ls hR hK hO hS hl)
  · split at h
    · next q hq =>
      cases h
      by_cases hld : xisld i = true
      · exact xs6_ld hx hb hE hR hK hld hq hd hO (fun e9 => by have h9 := kk H locs ls; rw [e9] at h9; exact h9 hR hK hO hS hl)
      · have hm9 := xs6_m hq
        unfold xs6 at hq
        split at hq
        · split at hq
          · split at hq
            · next hk =>
              cases hq
              simp only [xOkX, Bool.and_eq_true, Bool.or_eq_true, beq_iff_eq, List.contains_iff_mem, xbF_iff, xbM_iff, xbI_iff, xbT_iff, xbS_iff, xbP_iff, xbC_iff, List.any_eq_true, decide_eq_true_eq] at hok
              obtain ⟨hf, ha2, hb2, hb3⟩ := hok
              have ha22 := Nat.le_of_ble_eq_true ha2
              have hf' : xfok w.1 _ a (b / 8) := hf.elim Or.inl (fun ⟨e, he, h8⟩ => Or.inr ⟨e.2.2.2.2, by
                obtain ⟨e1, e2, e3, e4, e5⟩ := e
                dsimp only at h8
                cases h8
                exact he⟩)
              exact xs6_get hx hb hts hown hE hR hk (xcok_all a (by omega)) (by omega) hf' hb2 (Nat.le_of_ble_eq_true hb3) hd (kk H locs ls hR hK hO hS hl)
            · cases hq
          · cases hq
        · split at hq
          · split at hq
            · next hk =>
              split at hq
              · next hp =>
                cases hq
                simp only [xOkX, Bool.and_eq_true, Bool.or_eq_true, beq_iff_eq, List.contains_iff_mem, xbF_iff, xbM_iff, xbI_iff, xbT_iff, xbS_iff, xbP_iff, xbC_iff, List.any_eq_true, decide_eq_true_eq, Bool.not_eq_true'] at hok
                obtain ⟨hf, ha2, hb2, hb3, hfin⟩ := hok
                have ha22 := Nat.le_of_ble_eq_true ha2
                refine xs6_put hx hb hts hown hE hR hA hK hS hk (xcok_all a (by omega)) (by omega) (hf.elim Or.inl (fun ⟨⟨e, he, h8⟩, h7⟩ => Or.inr ⟨⟨e.2.2.2.2, by
                  obtain ⟨e1, e2, e3, e4, e5⟩ := e
                  dsimp only at h8
                  cases h8
                  exact he⟩, h7⟩)) (fun h5 => ?_) hb2 (Nat.le_of_ble_eq_true hb3) hd hp (fun H1 locs1 r1 r2 r3 r4 => ?_)
                · rcases hfin with h6 | h6
                  · rw [h6] at h5; cases h5
                  · exact ⟨hmn h6.1, h6.2⟩
                · have h9 := kk H1 locs1 ls r1 r2 (hO.eq r3) r4 hl
                  rw [show xn _ = xn m from congrArg (fun q => q.2.1) r3, show xw _ = xw m from congrArg (fun q => q.2.2) r3] at h9
                  exact h9
              · cases hq
            · cases hq
          · cases hq
        all_goals first | (cases hq; done) | exact absurd rfl hld
    · split at h
      · next hq => cases h; exact xs2_ok hx hb hq hd (kk H locs ls hR hK hO hS hl)
      · split at h
        · next hq => cases h; exact xs5_ok hx hb hl hq hd (fun ls' hl' => kk H locs ls' hR hK hO hS hl')
        · split at h
          · next hq =>
            cases h
            refine xs7_ok hx hb hE hR hA hK hS hq hd (fun H1 locs1 r1 r2 r3 r4 => ?_)
            have h9 := kk H1 locs1 ls r1 r2 (hO.eq r3) r4 hl
            rw [show xn _ = xn m from congrArg (fun q => q.2.1) r3, show xw _ = xw m from congrArg (fun q => q.2.2) r3] at h9
            exact h9
          · split at h
            · next hq => cases h; exact xs3_ok hx hb hq hd (kk H locs ls hR hK hO hS hl)
            · split at h
              · next hq => cases h; exact xs4_ok hx hb hq hd (kk H locs ls hR hK hO hS hl)
              · split at h
                · next hq =>
                  cases h
                  have hsub : ∀ len, xn m - nE + 1 = xn (xnew m a len) - nE ∧ xw m - wE + len = xw (xnew m a len) - wE := fun len => by
                    show _ = xn m + 1 - nE ∧ _ = xw m + len - wE
                    omega
                  unfold xs8 at hq
                  split at hq
                  · split at hq
                    · split at hq
                      · cases hq
                      · next hn =>
                        split at hq
                        · next hn3 =>
                          cases hq
                          simp only [xOkX, Bool.and_eq_true, beq_iff_eq, Bool.not_eq_true', beq_eq_false_iff_ne] at hok
                          refine xs8_arr hx hb hts hE hR hA hK hS hok.1.symm hok.2 (xAC_w (by rw [← hok.1]; exact hok.2)) hn (Nat.le_of_ble_eq_true hn3) ?_ ?_ hd (fun H1 r1 r2 r3 => ?_)
                          · exact (xroomc hmF hn1 hn2 hc1 hc2).1
                          · exact (xroomc hmF hn1 hn2 hc1 hc2).2
                          · exact W.cs (hsub _).1 (hsub _).2 (kk H1 locs ls r1 r2 (hO.nw hR.1.1) r3 hl)
                        · cases hq
                    · cases hq
                  · split at hq
                    · split at hq
                      · cases hq
                      · next hn =>
                        split at hq
                        · next hn3 =>
                          cases hq
                          simp only [xOkX, Bool.and_eq_true, beq_iff_eq, List.contains_iff_mem] at hok
                          obtain ⟨rfl, hck⟩ := hok
                          refine xs8_arrO hx hb hts hown hE hR hA hK hS hck hn (Nat.le_of_ble_eq_true hn3) ?_ ?_ hd (fun H1 r1 r2 r3 => ?_)
                          · exact (xroomc hmF hn1 hn2 hc1 hc2).1
                          · exact (xroomc hmF hn1 hn2 hc1 hc2).2
                          · exact W.cs (hsub _).1 (hsub _).2 (kk H1 locs ls r1 r2 (hO.nw hR.1.1) r3 hl)
                        · cases hq
                    · cases hq
                  · cases hq
                    simp only [xOkX, Bool.and_eq_true, beq_iff_eq, List.contains_iff_mem] at hok
                    obtain ⟨hck, hin, hit, hbn, ha2⟩ := hok
                    have ha22 := Nat.le_of_ble_eq_true ha2
                    refine xs8_new hx hb hts hown hE hR hA hK hS (xcok_all a (by omega)) (by omega) hbn hck hin hit ?_ ?_ hd (fun H1 r1 r2 r3 => ?_)
                    · exact (xroomc hmF hn1 hn2 hc1 hc2).1
                    · exact (xroomc hmF hn1 hn2 hc1 hc2).2
                    · exact W.cs (hsub b).1 (hsub b).2 (kk H1 locs ls r1 r2 (hO.nw hR.1.1) r3 hl)
                  · split at hq
                    · split at hq
                      · next hk =>
                        cases hq
                        obtain ⟨rfl, h8⟩ := hk
                        simp only [xOkX, if_pos, List.contains_iff_mem] at hok
                        refine xs8_obj hx hb hts hown (hl.1.trans hml.symm) (x_in (fun e : Nat × Nat => Cond.methodLink (xcn e.1) e.2 Lib.objectInit) xOI_ok hok) xOI_w.1 xOI_w.2 (xblt8 h8) hfr (by omega) hd (kk H locs ls hR hK hO hS hl)
                      · cases hq
                    · cases hq
                  · cases hq
                · split at h
                  · next hq =>
                    cases h
                    have ha0 : a = 0 := by
                      unfold xs9 at hq
                      split at hq
                      all_goals first | (cases hq; done) | (split at hq <;> first | assumption | cases hq)
                    subst ha0
                    refine xs9_ok hx hb hts hown hq hd (fun idx h8 => ?_) (fun idx h8 => ?_) (kk H locs ls hR hK hO hS hl)
                    · rcases h8 with rfl | rfl <;> simpa [xOkX] using hok
                    · subst h8; simpa [xOkX] using hok
                  · split at h
                    · next hq =>
                      cases h
                      exact xs10_ok (n := cc) hx hb hts hown hq hd (hml.trans hl.1.symm) hfr hlo (Nat.le_trans (Nat.sub_le_sub_right hmF.1 _) hc1) (Nat.le_trans (Nat.sub_le_sub_right hmF.2 _) hc2) hoky (kk H locs ls hR hK hO hS hl)
                    · split at h
                      · next hq =>
                        cases h
                        unfold xs11 at hq
                        split at hq
                        · split at hq
                          · next ha =>
                            cases hq
                            unfold xOkY at hoky
                            dsimp only at hoky
                            rw [List.contains_iff_mem] at hoky
                            subst hH0
                            exact va_gets hx hb (hZ.1 a ha.1 ha.2) hS hown (hts _ (xW_of (x_in (fun e : Nat × Nat × Nat => Cond.fieldLink (xcn e.1) e.2.1 (xgs e.2.2).1 (xgs e.2.2).2.1 (xgs e.2.2).2.2) xGS_ok hoky) rfl)) (fun _ h9 => h9) hd (kk H locs ls hR hK hO hS hl)
                          · cases hq
                        · cases hq
                      · split at h
                        · next hq =>
                          cases h
                          refine xs12_ok (n := cc) hx hb hts hown hE hA hR hK hS hq hd (hml.trans hl.1.symm) hfr hlo hoky (fun H1 locs1 r1 r2 r4 => ?_)
                          have r3 := xs12_m hq
                          have h9 := kk H1 locs1 ls r1 r2 (hO.eq r3) r4 hl
                          rw [show xn _ = xn m from congrArg (fun q => q.2.1) r3, show xw _ = xw m from congrArg (fun q => q.2.2) r3] at h9
                          exact h9
                        · split at h
                          · next hq =>
                            cases h
                            subst hH0
                            exact xs13_ok (n := cc) hx hb hts hown hS hZ hq hd (hml.trans hl.1.symm) hfr5 hlo5 (Nat.le_trans (Nat.sub_le_sub_right hmF.1 _) hc1) (Nat.le_trans (Nat.sub_le_sub_right hmF.2 _) hc2) hoky (fun locs1 r4 => kk H locs1 ls hR hK hO r4 hl)
                          · cases h
end XTA
