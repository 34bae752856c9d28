/-! A TEXT'S OWN METHODS: length and charAt of a Latin-1 text, walked once -/
def tWs (y : MethodName) (bytes : ByteArray) (maxL : Nat) (ret : Option FieldType) : List Cond := .code y bytes maxL ret :: xW
def tRm (d : Nat) : Room := { frames := d + 1, cells := 0, slots := 0, locals := 50 * (d + 1) }
def tPost (v : Option Value) : Array Value → State → Outcome → State → Prop := fun _ st oc t => oc = .returned v ∧ t.heap = st.heap
/-- a text at a: its bytes' array at v, len of them, f -/
def tX (A : Nat → Prop) (a v len : Nat) (f : Nat → Int32) (U : State) : Prop := va_Z "java/lang/String" "COMPACT_STRINGS" "Z" (.int 1) A U U.heap ∧ va_Zq "jdk/internal/util/Preconditions" "SIOOBE_FORMATTER" "Ljava/util/function/BiFunction;" A U U.heap ∧ va_O "java/lang/String" a A U U.heap ∧ va_OF "java/lang/String" "code\x72" "B" (.int 0) a A U U.heap ∧ va_OF "java/lang/String" "value" "[B" (.ref v) a A U U.heap ∧ va_T .byte v len (fun j => .int (f j)) A U U.heap
theorem tX.to {A : Nat → Prop} {a v len : Nat} {f : Nat → Int32} {s U : State} {H : Heap} {locs : List Loc} (h : tX A a v len f s) (hW : s.WarmedH U.vm) (hS : va_S A s.heap H locs) (hU : U.heap = H) : tX A a v len f U := by
  have hq : ∀ q : Nat, q < s.heap.size → ¬ A q → U.heap[q]? = s.heap[q]? := fun q h1 h2 => by rw [hU]; exact hS.2.1 q h1 h2
  obtain ⟨z1, z2, o1, o2, o3, o4⟩ := h
  exact ⟨(z1.kept hq).moved hW.alike, z2.elim (fun z => Or.inl ((z.kept hq).moved hW.alike)) (fun ⟨t, z⟩ => Or.inr ⟨t, (z.kept hq).moved hW.alike⟩), va_O.moved hW.alike (o1.kept hq), va_OF.moved hW.alike (o2.kept hq), va_OF.moved hW.alike (o3.kept hq), va_T.moved hW.alike (o4.kept hq)⟩
theorem tblind (A : Nat → Prop) (a v len : Nat) (f : Nat → Int32) (av : List Value) : FrameBlind (va_Pc av (tX A a v len f)) := by
  intro ar U g mk h
  obtain ⟨h0, z1, z2, o1, o2, o3, o4⟩ := h
  exact ⟨h0, va_Z.moved (u := U) (U := U.calling g mk ar) (Vm.Alike.refl U.vm) z1, z2.elim (fun z => Or.inl (va_Z.moved (u := U) (U := U.calling g mk ar) (Vm.Alike.refl U.vm) z)) (fun ⟨t, z⟩ => Or.inr ⟨t, va_Z.moved (u := U) (U := U.calling g mk ar) (Vm.Alike.refl U.vm) z⟩), va_O.moved (u := U) (U := U.calling g mk ar) (Vm.Alike.refl U.vm) o1, va_OF.moved (u := U) (U := U.calling g mk ar) (Vm.Alike.refl U.vm) o2, va_OF.moved (u := U) (U := U.calling g mk ar) (Vm.Alike.refl U.vm) o3, va_T.moved (u := U) (U := U.calling g mk ar) (Vm.Alike.refl U.vm) o4⟩
theorem txW {w : Cond} (h : xsub tables_1 [w] = true) (hg : goodWord w = true) : w ∈ xW := xW_of (xsub_in _ _ h _ List.mem_cons_self) hg
theorem tgood {l : List Cond} (h : ∀ w ∈ l, w ∈ xW) : GoodIn xW l := fun w hw => ⟨h w hw, good_of_word (List.mem_filter.mp (h w hw)).2⟩
theorem tgoodV {own C : String} {idx : Nat} {y : MethodName} {cc : ByteArray} {n : Nat} {ret : Option FieldType} (h1 : Cond.methodLink own idx y ∈ xW) (h2 : Cond.instanceMethod y ∈ xW) (h3 : Cond.selects C y y ∈ xW) (h4 : Cond.initialized C ∈ xW) (h5 : Cond.code y cc n ret ∈ xW) : GoodIn xW (wsV own idx C y (tWs y cc n ret)) := by
  refine tgood fun z hz => ?_
  unfold wsV at hz
  rcases List.mem_append.mp hz with h7 | h7
  · rcases List.mem_cons.mp h7 with h6 | h7
    · rw [h6]; exact h1
    · rcases List.mem_cons.mp h7 with h6 | h7
      · rw [h6]; exact h2
      · rcases List.mem_cons.mp h7 with h6 | h7
        · rw [h6]; exact h3
        · rcases List.mem_cons.mp h7 with h6 | h7
          · rw [h6]; exact h4
          · cases h7
  · rcases List.mem_cons.mp h7 with h6 | h7
    · rw [h6]; exact h5
    · exact h7
theorem tgoodS {own : String} {idx : Nat} {y : MethodName} {cc : ByteArray} {n : Nat} {ret : Option FieldType} (h1 : Cond.methodLink own idx y ∈ xW) (h2 : Cond.static y ∈ xW) (h4 : Cond.initialized y.cls ∈ xW) (h5 : Cond.code y cc n ret ∈ xW) : GoodIn xW (va_wsS own idx y (tWs y cc n ret)) := by
  refine tgood fun z hz => ?_
  unfold va_wsS at hz
  rcases List.mem_append.mp hz with h7 | h7
  · rcases List.mem_cons.mp h7 with h6 | h7
    · rw [h6]; exact h1
    · rcases List.mem_cons.mp h7 with h6 | h7
      · rw [h6]; exact h2
      · rcases List.mem_cons.mp h7 with h6 | h7
        · rw [h6]; exact h4
        · cases h7
  · rcases List.mem_cons.mp h7 with h6 | h7
    · rw [h6]; exact h5
    · exact h7
section TXA
variable {p : Program} {l : Launch} {e : Env} {R : Room} {s : State} {mm : MethodId} {args : Array Value} {below : List Frame} {meth : Method} {c : Code} {H H0 : Heap} {locs : List Loc} {Q : State → Prop} {ls : Array Slot} {cells slots pc : Nat} {rest st0 : List Value} {ar : Array Value} {v : Option Value} {A : Nat → Prop}
theorem t_callk (hr : va_Run p l e R s mm args below meth c H locs cells slots 0 0 (F0 mm pc ls st0) rest (tPost v ar) A) (hS : va_S A H0 H locs)
    (kk : ∀ (locs1 : List Loc), va_S A H0 H locs1 → W p l e R s mm args below meth c H locs1 cells slots Q (F0 mm (pc + 3) ls (v.toList ++ rest))) : W p l e R s mm args below meth c H locs cells slots Q (F0 mm pc ls st0) := by
  intro T hT X
  obtain ⟨v9, st₀, t, T', L, h0, X', hL, e1, e2, ⟨hv, hh⟩, st⟩ := hr T hT X
  cases hv
  obtain ⟨t2, a1, b1⟩ := kk (locs ++ L) ⟨hS.1, hS.2.1, fun q hq => by
    rcases List.mem_append.mp hq with h | h
    · exact hS.2.2 q h
    · exact hL q h⟩ T' (by rw [e1, hh, h0]) X'
  exact ⟨t2, st t2 a1, b1⟩
end TXA
section TXB
variable {l : Launch} {A : Nat → Prop} {a v len : Nat} {f : Nat → Int32}

abbrev ty_coder : MethodName := ⟨"java/lang/String", "code\x72", "()B"⟩
theorem td_coder_0 : decode prog_25_method_152_code 0 = .ok (.getstatic 38, 3) := by decide +kernel
theorem td_coder_3 : decode prog_25_method_152_code 3 = .ok (.ifCond .eq 10, 3) := by decide +kernel
theorem td_coder_6 : decode prog_25_method_152_code 6 = .ok (.aload_n 0, 1) := by decide +kernel
theorem td_coder_7 : decode prog_25_method_152_code 7 = .ok (.getfield 15, 3) := by decide +kernel
theorem td_coder_10 : decode prog_25_method_152_code 10 = .ok (.goto 4, 3) := by decide +kernel
theorem td_coder_14 : decode prog_25_method_152_code 14 = .ok (.ireturn, 1) := by decide +kernel
theorem t_coder  : Met l ty_coder (tWs ty_coder prog_25_method_152_code 1 (some .byte)) (tRm 0) (va_Pc [.ref a] (tX A a v len f)) (tPost (some (.int 0))) 0 0 A := by
  refine Met.ofW (cc := prog_25_method_152_code) (maxL := 1) (ret := (some .byte)) (by decide) rfl ?_
  intro p e s mm args below meth c s₁ B hml hv
  obtain ⟨rfl, hX⟩ := hv
  have hts : ∀ z ∈ xW, z.before ([.ref a] : List Value).toArray s = true := fun z hz => atoms_spec (ws := tWs ty_coder prog_25_method_152_code 1 (some .byte)) B.pre z (List.mem_cons_of_mem _ hz)
  have hown : s.vm.findClass "java/lang/String" = some mm.cls := findClass_of_methodNamed B.named
  have hr := B.returns
  have hx := B.exec
  have hb := B.bytes
  have hl := lv_entry ([.ref a] : List Value) (n := 1) (Nat.le_of_ble_eq_true rfl)
  rw [lg_entry_eq]
  generalize (lg_sl ([.ref a] : List Value) ++ List.replicate (1 - (lg_sl ([.ref a] : List Value)).length) Slot.unset).toArray = ls at hl ⊢
  have hq : ∀ t : State, t.heap = s.heap → tPost (some (.int 0)) ([.ref a] : List Value).toArray s (.returned (some (.int 0))) t := fun t ht => ⟨rfl, ht⟩
  have hrf : va_S A s.heap s.heap [] := va_S.rf
  refine va_gets hx hb hX.1 hrf hown (hts _ (txW (w := .fieldLink "java/lang/String" 38 "java/lang/String" "COMPACT_STRINGS" "Z") (by decide +kernel) rfl)) (fun _ h => h) td_coder_0 ?_
  refine lv_if_eq hx hb td_coder_3 (tgt := 13) rfl (fun h => absurd h (by decide)) (fun _ => ?_)
  refine lv_aload_n hx hb td_coder_6 (i := 0) rfl (lv_at hl 0 rfl) ?_
  refine vk_getf hx hb hX.2.2.2.1 hrf hown (hts _ (txW (w := .fieldLink "java/lang/String" 15 "java/lang/String" "code\x72" "B") (by decide +kernel) rfl)) (fun _ h => h) td_coder_7 ?_
  refine lv_goto hx hb td_coder_10 (tgt := 14) rfl ?_
  exact W.zret hx hb hr rfl (fun t ht _ => hq t ht) hrf.2.2 td_coder_14
abbrev ty_latin : MethodName := ⟨"java/lang/String", "isLatin1", "()Z"⟩
theorem td_latin_0 : decode prog_25_method_154_code 0 = .ok (.getstatic 38, 3) := by decide +kernel
theorem td_latin_3 : decode prog_25_method_154_code 3 = .ok (.ifCond .eq 14, 3) := by decide +kernel
theorem td_latin_6 : decode prog_25_method_154_code 6 = .ok (.aload_n 0, 1) := by decide +kernel
theorem td_latin_7 : decode prog_25_method_154_code 7 = .ok (.getfield 15, 3) := by decide +kernel
theorem td_latin_10 : decode prog_25_method_154_code 10 = .ok (.ifCond .ne 7, 3) := by decide +kernel
theorem td_latin_13 : decode prog_25_method_154_code 13 = .ok (.iconst 1, 1) := by decide +kernel
theorem td_latin_14 : decode prog_25_method_154_code 14 = .ok (.goto 4, 3) := by decide +kernel
theorem td_latin_18 : decode prog_25_method_154_code 18 = .ok (.ireturn, 1) := by decide +kernel
theorem t_latin  : Met l ty_latin (tWs ty_latin prog_25_method_154_code 1 (some .boolean)) (tRm 0) (va_Pc [.ref a] (tX A a v len f)) (tPost (some (.int 1))) 0 0 A := by
  refine Met.ofW (cc := prog_25_method_154_code) (maxL := 1) (ret := (some .boolean)) (by decide) rfl ?_
  intro p e s mm args below meth c s₁ B hml hv
  obtain ⟨rfl, hX⟩ := hv
  have hts : ∀ z ∈ xW, z.before ([.ref a] : List Value).toArray s = true := fun z hz => atoms_spec (ws := tWs ty_latin prog_25_method_154_code 1 (some .boolean)) B.pre z (List.mem_cons_of_mem _ hz)
  have hown : s.vm.findClass "java/lang/String" = some mm.cls := findClass_of_methodNamed B.named
  have hr := B.returns
  have hx := B.exec
  have hb := B.bytes
  have hl := lv_entry ([.ref a] : List Value) (n := 1) (Nat.le_of_ble_eq_true rfl)
  rw [lg_entry_eq]
  generalize (lg_sl ([.ref a] : List Value) ++ List.replicate (1 - (lg_sl ([.ref a] : List Value)).length) Slot.unset).toArray = ls at hl ⊢
  have hq : ∀ t : State, t.heap = s.heap → tPost (some (.int 1)) ([.ref a] : List Value).toArray s (.returned (some (.int 1))) t := fun t ht => ⟨rfl, ht⟩
  have hrf : va_S A s.heap s.heap [] := va_S.rf
  refine va_gets hx hb hX.1 hrf hown (hts _ (txW (w := .fieldLink "java/lang/String" 38 "java/lang/String" "COMPACT_STRINGS" "Z") (by decide +kernel) rfl)) (fun _ h => h) td_latin_0 ?_
  refine lv_if_eq hx hb td_latin_3 (tgt := 17) rfl (fun h => absurd h (by decide)) (fun _ => ?_)
  refine lv_aload_n hx hb td_latin_6 (i := 0) rfl (lv_at hl 0 rfl) ?_
  refine vk_getf hx hb hX.2.2.2.1 hrf hown (hts _ (txW (w := .fieldLink "java/lang/String" 15 "java/lang/String" "code\x72" "B") (by decide +kernel) rfl)) (fun _ h => h) td_latin_7 ?_
  refine lv_if_ne hx hb td_latin_10 (tgt := 17) rfl (fun h => absurd rfl h) (fun _ => ?_)
  refine lv_iconst hx hb td_latin_13 (v := 1) rfl ?_
  refine lv_goto hx hb td_latin_14 (tgt := 18) rfl ?_
  exact W.zret hx hb hr rfl (fun t ht _ => hq t ht) hrf.2.2 td_latin_18
theorem tsh0 (x : Int32) : x >>> ((0 : Int32) &&& 31) = x := by rw [show (0 : Int32) &&& 31 = 0 from rfl]; exact Int32.shiftRight_zero
abbrev ty_length : MethodName := ⟨"java/lang/String", "length", "()I"⟩
theorem td_length_0 : decode prog_25_method_54_code 0 = .ok (.aload_n 0, 1) := by decide +kernel
theorem td_length_1 : decode prog_25_method_54_code 1 = .ok (.getfield 9, 3) := by decide +kernel
theorem td_length_4 : decode prog_25_method_54_code 4 = .ok (.arraylength, 1) := by decide +kernel
theorem td_length_5 : decode prog_25_method_54_code 5 = .ok (.aload_n 0, 1) := by decide +kernel
theorem td_length_6 : decode prog_25_method_54_code 6 = .ok (.invokevirtual 335, 3) := by decide +kernel
theorem td_length_9 : decode prog_25_method_54_code 9 = .ok (.ishr, 1) := by decide +kernel
theorem td_length_10 : decode prog_25_method_54_code 10 = .ok (.ireturn, 1) := by decide +kernel
theorem t_length  : Met l ty_length (tWs ty_length prog_25_method_54_code 1 (some .int)) (tRm 1) (va_Pc [.ref a] (tX A a v len f)) (tPost (some (.int (Int32.ofNat len)))) 0 0 A := by
  refine Met.ofW (cc := prog_25_method_54_code) (maxL := 1) (ret := (some .int)) (by decide) rfl ?_
  intro p e s mm args below meth c s₁ B hml hv
  obtain ⟨rfl, hX⟩ := hv
  have hts : ∀ z ∈ xW, z.before ([.ref a] : List Value).toArray s = true := fun z hz => atoms_spec (ws := tWs ty_length prog_25_method_54_code 1 (some .int)) B.pre z (List.mem_cons_of_mem _ hz)
  have hown : s.vm.findClass "java/lang/String" = some mm.cls := findClass_of_methodNamed B.named
  have hr := B.returns
  have hx := B.exec
  have hb := B.bytes
  have hl := lv_entry ([.ref a] : List Value) (n := 1) (Nat.le_of_ble_eq_true rfl)
  rw [lg_entry_eq]
  generalize (lg_sl ([.ref a] : List Value) ++ List.replicate (1 - (lg_sl ([.ref a] : List Value)).length) Slot.unset).toArray = ls at hl ⊢
  have hq : ∀ t : State, t.heap = s.heap → tPost (some (.int (Int32.ofNat len))) ([.ref a] : List Value).toArray s (.returned (some (.int (Int32.ofNat len)))) t := fun t ht => ⟨rfl, ht⟩
  have hrf : va_S A s.heap s.heap [] := va_S.rf
  have hrecv : ∃ cell : Cell, s.heap[a]? = some cell ∧ cell.vm.isStatics = false ∧ s.vm.findClass "java/lang/String" = some cell.cls := by obtain ⟨cell, h1, h2, h3, -⟩ := hX.2.2.1; exact ⟨cell, h1, h2, h3⟩
  refine lv_aload_n hx hb td_length_0 (i := 0) rfl (lv_at hl 0 rfl) ?_
  refine vk_getf hx hb hX.2.2.2.2.1 hrf hown (hts _ (txW (w := .fieldLink "java/lang/String" 9 "java/lang/String" "value" "[B") (by decide +kernel) rfl)) (fun _ h => h) td_length_1 ?_
  refine va_tlen hx hb hX.2.2.2.2.2 hrf rfl td_length_4 ?_
  refine lv_aload_n hx hb td_length_5 (i := 0) rfl (lv_at hl 0 rfl) ?_
  refine t_callk (va_runV (b := a) (As := []) (rest := _) ⟨hx, hb, hml, hown, hts⟩ (t_coder (l := l) (A := A) (a := a) (v := v) (len := len) (f := f)) (cwV 0 hts (C := "java/lang/String") (own := "java/lang/String") (index := 335) (tgoodV (txW (by decide +kernel) rfl) (txW (by decide +kernel) rfl) (txW (by decide +kernel) rfl) (txW (by decide +kernel) rfl) (txW (by decide +kernel) rfl)) rfl rfl rfl ⟨rfl, by decide, by decide, rfl⟩ ⟨Nat.le_of_ble_eq_true rfl, Nat.le_of_ble_eq_true rfl⟩) ⟨tblind A a v len f _, hrecv, fun U hU hW => ⟨rfl, hX.to hW hrf hU⟩⟩ rfl rfl hl.1 rfl (lv_room (Nat.le_of_ble_eq_true rfl)) td_length_6 ⟨Nat.le_refl _, Nat.le_refl _⟩) hrf (fun locs1 hS1 => ?_)
  refine lv_ishr hx hb td_length_9 ?_
  rw [tsh0]
  exact W.iret hx hb hr (fun t ht _ => hq t ht) hS1.2.2 td_length_10
abbrev ty_pcheck : MethodName := ⟨"jdk/internal/util/Preconditions", "checkIndex", "(IILjava/util/function/BiFunction;)I"⟩
theorem td_pcheck_0 : decode prog_29_method_11_code 0 = .ok (.iload_n 0, 1) := by decide +kernel
theorem td_pcheck_1 : decode prog_29_method_11_code 1 = .ok (.ifCond .lt 8, 3) := by decide +kernel
theorem td_pcheck_4 : decode prog_29_method_11_code 4 = .ok (.iload_n 0, 1) := by decide +kernel
theorem td_pcheck_5 : decode prog_29_method_11_code 5 = .ok (.iload_n 1, 1) := by decide +kernel
theorem td_pcheck_6 : decode prog_29_method_11_code 6 = .ok (.if_icmp .lt 10, 3) := by decide +kernel
theorem td_pcheck_16 : decode prog_29_method_11_code 16 = .ok (.iload_n 0, 1) := by decide +kernel
theorem td_pcheck_17 : decode prog_29_method_11_code 17 = .ok (.ireturn, 1) := by decide +kernel
theorem t_pcheck {i n : Int32} {g : Nat} (h0 : ¬ i < 0) (h1 : i < n) : Met l ty_pcheck (tWs ty_pcheck prog_29_method_11_code 3 (some .int)) (tRm 0) (va_Pc [.int i, .int n, .ref g] (tX A a v len f)) (tPost (some (.int i))) 0 0 A := by
  refine Met.ofW (cc := prog_29_method_11_code) (maxL := 3) (ret := (some .int)) (by decide) rfl ?_
  intro p e s mm args below meth c s₁ B hml hv
  obtain ⟨rfl, hX⟩ := hv
  have hts : ∀ z ∈ xW, z.before ([.int i, .int n, .ref g] : List Value).toArray s = true := fun z hz => atoms_spec (ws := tWs ty_pcheck prog_29_method_11_code 3 (some .int)) B.pre z (List.mem_cons_of_mem _ hz)
  have hown : s.vm.findClass "jdk/internal/util/Preconditions" = some mm.cls := findClass_of_methodNamed B.named
  have hr := B.returns
  have hx := B.exec
  have hb := B.bytes
  have hl := lv_entry ([.int i, .int n, .ref g] : List Value) (n := 3) (Nat.le_of_ble_eq_true rfl)
  rw [lg_entry_eq]
  generalize (lg_sl ([.int i, .int n, .ref g] : List Value) ++ List.replicate (3 - (lg_sl ([.int i, .int n, .ref g] : List Value)).length) Slot.unset).toArray = ls at hl ⊢
  have hq : ∀ t : State, t.heap = s.heap → tPost (some (.int i)) ([.int i, .int n, .ref g] : List Value).toArray s (.returned (some (.int i))) t := fun t ht => ⟨rfl, ht⟩
  have hrf : va_S A s.heap s.heap [] := va_S.rf
  refine lv_iload_n hx hb td_pcheck_0 (i := 0) rfl (lv_at hl 0 rfl) ?_
  refine lv_if_lt hx hb td_pcheck_1 (tgt := 9) rfl (fun h => absurd h h0) (fun _ => ?_)
  refine lv_iload_n hx hb td_pcheck_4 (i := 0) rfl (lv_at hl 0 rfl) ?_
  refine lv_iload_n hx hb td_pcheck_5 (i := 1) rfl (lv_at hl 1 rfl) ?_
  refine lv_icmp_lt hx hb td_pcheck_6 (tgt := 16) rfl (fun _ => ?_) (fun h => absurd h1 h)
  refine lv_iload_n hx hb td_pcheck_16 (i := 0) rfl (lv_at hl 0 rfl) ?_
  exact W.iret hx hb hr (fun t ht _ => hq t ht) hrf.2.2 td_pcheck_17
abbrev ty_pchkn : MethodName := ⟨"jdk/internal/util/Preconditions", "checkIndex", "(IILjava/util/function/BiFunction;)I"⟩
theorem td_pchkn_0 : decode prog_29_method_11_code 0 = .ok (.iload_n 0, 1) := by decide +kernel
theorem td_pchkn_1 : decode prog_29_method_11_code 1 = .ok (.ifCond .lt 8, 3) := by decide +kernel
theorem td_pchkn_4 : decode prog_29_method_11_code 4 = .ok (.iload_n 0, 1) := by decide +kernel
theorem td_pchkn_5 : decode prog_29_method_11_code 5 = .ok (.iload_n 1, 1) := by decide +kernel
theorem td_pchkn_6 : decode prog_29_method_11_code 6 = .ok (.if_icmp .lt 10, 3) := by decide +kernel
theorem td_pchkn_16 : decode prog_29_method_11_code 16 = .ok (.iload_n 0, 1) := by decide +kernel
theorem td_pchkn_17 : decode prog_29_method_11_code 17 = .ok (.ireturn, 1) := by decide +kernel
theorem t_pchkn {i n : Int32} (h0 : ¬ i < 0) (h1 : i < n) : Met l ty_pchkn (tWs ty_pchkn prog_29_method_11_code 3 (some .int)) (tRm 0) (va_Pc [.int i, .int n, .null] (tX A a v len f)) (tPost (some (.int i))) 0 0 A := by
  refine Met.ofW (cc := prog_29_method_11_code) (maxL := 3) (ret := (some .int)) (by decide) rfl ?_
  intro p e s mm args below meth c s₁ B hml hv
  obtain ⟨rfl, hX⟩ := hv
  have hts : ∀ z ∈ xW, z.before ([.int i, .int n, .null] : List Value).toArray s = true := fun z hz => atoms_spec (ws := tWs ty_pchkn prog_29_method_11_code 3 (some .int)) B.pre z (List.mem_cons_of_mem _ hz)
  have hown : s.vm.findClass "jdk/internal/util/Preconditions" = some mm.cls := findClass_of_methodNamed B.named
  have hr := B.returns
  have hx := B.exec
  have hb := B.bytes
  have hl := lv_entry ([.int i, .int n, .null] : List Value) (n := 3) (Nat.le_of_ble_eq_true rfl)
  rw [lg_entry_eq]
  generalize (lg_sl ([.int i, .int n, .null] : List Value) ++ List.replicate (3 - (lg_sl ([.int i, .int n, .null] : List Value)).length) Slot.unset).toArray = ls at hl ⊢
  have hq : ∀ t : State, t.heap = s.heap → tPost (some (.int i)) ([.int i, .int n, .null] : List Value).toArray s (.returned (some (.int i))) t := fun t ht => ⟨rfl, ht⟩
  have hrf : va_S A s.heap s.heap [] := va_S.rf
  refine lv_iload_n hx hb td_pchkn_0 (i := 0) rfl (lv_at hl 0 rfl) ?_
  refine lv_if_lt hx hb td_pchkn_1 (tgt := 9) rfl (fun h => absurd h h0) (fun _ => ?_)
  refine lv_iload_n hx hb td_pchkn_4 (i := 0) rfl (lv_at hl 0 rfl) ?_
  refine lv_iload_n hx hb td_pchkn_5 (i := 1) rfl (lv_at hl 1 rfl) ?_
  refine lv_icmp_lt hx hb td_pchkn_6 (tgt := 16) rfl (fun _ => ?_) (fun h => absurd h1 h)
  refine lv_iload_n hx hb td_pchkn_16 (i := 0) rfl (lv_at hl 0 rfl) ?_
  exact W.iret hx hb hr (fun t ht _ => hq t ht) hrf.2.2 td_pchkn_17
abbrev ty_scheck : MethodName := ⟨"java/lang/String", "checkIndex", "(II)V"⟩
theorem td_scheck_0 : decode prog_25_method_155_code 0 = .ok (.iload_n 0, 1) := by decide +kernel
theorem td_scheck_1 : decode prog_25_method_155_code 1 = .ok (.iload_n 1, 1) := by decide +kernel
theorem td_scheck_2 : decode prog_25_method_155_code 2 = .ok (.getstatic 1053, 3) := by decide +kernel
theorem td_scheck_5 : decode prog_25_method_155_code 5 = .ok (.invokestatic 1059, 3) := by decide +kernel
theorem td_scheck_8 : decode prog_25_method_155_code 8 = .ok (.pop, 1) := by decide +kernel
theorem td_scheck_9 : decode prog_25_method_155_code 9 = .ok (.return_, 1) := by decide +kernel
theorem t_scheck {i n : Int32} (h0 : ¬ i < 0) (h1 : i < n) : Met l ty_scheck (tWs ty_scheck prog_25_method_155_code 2 none) (tRm 1) (va_Pc [.int i, .int n] (tX A a v len f)) (tPost none) 0 0 A := by
  refine Met.ofW (cc := prog_25_method_155_code) (maxL := 2) (ret := none) (by decide) rfl ?_
  intro p e s mm args below meth c s₁ B hml hv
  obtain ⟨rfl, hX⟩ := hv
  have hts : ∀ z ∈ xW, z.before ([.int i, .int n] : List Value).toArray s = true := fun z hz => atoms_spec (ws := tWs ty_scheck prog_25_method_155_code 2 none) B.pre z (List.mem_cons_of_mem _ hz)
  have hown : s.vm.findClass "java/lang/String" = some mm.cls := findClass_of_methodNamed B.named
  have hr := B.returns
  have hx := B.exec
  have hb := B.bytes
  have hl := lv_entry ([.int i, .int n] : List Value) (n := 2) (Nat.le_of_ble_eq_true rfl)
  rw [lg_entry_eq]
  generalize (lg_sl ([.int i, .int n] : List Value) ++ List.replicate (2 - (lg_sl ([.int i, .int n] : List Value)).length) Slot.unset).toArray = ls at hl ⊢
  have hq : ∀ t : State, t.heap = s.heap → tPost none ([.int i, .int n] : List Value).toArray s (.returned none) t := fun t ht => ⟨rfl, ht⟩
  have hrf : va_S A s.heap s.heap [] := va_S.rf
  refine lv_iload_n hx hb td_scheck_0 (i := 0) rfl (lv_at hl 0 rfl) ?_
  refine lv_iload_n hx hb td_scheck_1 (i := 1) rfl (lv_at hl 1 rfl) ?_
  rcases hX.2.1 with hg | ⟨g, hg⟩
  · refine va_gets hx hb hg hrf hown (hts _ (txW (w := .fieldLink "java/lang/String" 1053 "jdk/internal/util/Preconditions" "SIOOBE_FORMATTER" "Ljava/util/function/BiFunction;") (by decide +kernel) rfl)) (fun _ h => h) td_scheck_2 ?_
    refine t_callk (va_runS (As := [.int i, .int n, .null]) (rest := _) ⟨hx, hb, hml, hown, hts⟩ (t_pchkn (l := l) (A := A) (a := a) (v := v) (len := len) (f := f) (i := i) (n := n) h0 h1) (va_cwS 3 hts (own := "java/lang/String") (index := 1059) (tgoodS (txW (by decide +kernel) rfl) (txW (by decide +kernel) rfl) (txW (by decide +kernel) rfl) (txW (by decide +kernel) rfl)) rfl rfl rfl ⟨by decide, by decide, rfl⟩ ⟨Nat.le_of_ble_eq_true rfl, Nat.le_of_ble_eq_true rfl⟩) ⟨tblind A a v len f _, fun U hU hW => ⟨rfl, hX.to hW hrf hU⟩⟩ rfl rfl hl.1 rfl (lv_room (Nat.le_of_ble_eq_true rfl)) td_scheck_5 ⟨Nat.le_refl _, Nat.le_refl _⟩) hrf (fun locs1 hS1 => ?_)
    refine lv_pop hx hb td_scheck_8 rfl ?_
    exact W.vret hx hb hr (fun t ht _ => hq t ht) hS1.2.2 td_scheck_9
  · refine va_gets hx hb hg hrf hown (hts _ (txW (w := .fieldLink "java/lang/String" 1053 "jdk/internal/util/Preconditions" "SIOOBE_FORMATTER" "Ljava/util/function/BiFunction;") (by decide +kernel) rfl)) (fun _ h => h) td_scheck_2 ?_
    refine t_callk (va_runS (As := [.int i, .int n, .ref g]) (rest := _) ⟨hx, hb, hml, hown, hts⟩ (t_pcheck (l := l) (A := A) (a := a) (v := v) (len := len) (f := f) (i := i) (n := n) (g := g) h0 h1) (va_cwS 3 hts (own := "java/lang/String") (index := 1059) (tgoodS (txW (by decide +kernel) rfl) (txW (by decide +kernel) rfl) (txW (by decide +kernel) rfl) (txW (by decide +kernel) rfl)) rfl rfl rfl ⟨by decide, by decide, rfl⟩ ⟨Nat.le_of_ble_eq_true rfl, Nat.le_of_ble_eq_true rfl⟩) ⟨tblind A a v len f _, fun U hU hW => ⟨rfl, hX.to hW hrf hU⟩⟩ rfl rfl hl.1 rfl (lv_room (Nat.le_of_ble_eq_true rfl)) td_scheck_5 ⟨Nat.le_refl _, Nat.le_refl _⟩) hrf (fun locs1 hS1 => ?_)
    refine lv_pop hx hb td_scheck_8 rfl ?_
    exact W.vret hx hb hr (fun t ht _ => hq t ht) hS1.2.2 td_scheck_9
abbrev ty_lchar : MethodName := ⟨"java/lang/StringLatin1", "charAt", "([BI)C"⟩
theorem td_lchar_0 : decode prog_26_method_2_code 0 = .ok (.iload_n 1, 1) := by decide +kernel
theorem td_lchar_1 : decode prog_26_method_2_code 1 = .ok (.aload_n 0, 1) := by decide +kernel
theorem td_lchar_2 : decode prog_26_method_2_code 2 = .ok (.arraylength, 1) := by decide +kernel
theorem td_lchar_3 : decode prog_26_method_2_code 3 = .ok (.invokestatic 9, 3) := by decide +kernel
theorem td_lchar_6 : decode prog_26_method_2_code 6 = .ok (.aload_n 0, 1) := by decide +kernel
theorem td_lchar_7 : decode prog_26_method_2_code 7 = .ok (.iload_n 1, 1) := by decide +kernel
theorem td_lchar_8 : decode prog_26_method_2_code 8 = .ok (.baload, 1) := by decide +kernel
theorem td_lchar_9 : decode prog_26_method_2_code 9 = .ok (.sipush 255, 3) := by decide +kernel
theorem td_lchar_12 : decode prog_26_method_2_code 12 = .ok (.iand, 1) := by decide +kernel
theorem td_lchar_13 : decode prog_26_method_2_code 13 = .ok (.i2c, 1) := by decide +kernel
theorem td_lchar_14 : decode prog_26_method_2_code 14 = .ok (.ireturn, 1) := by decide +kernel
theorem t_lchar {i r : Int32} (h0 : ¬ i < 0) (h1 : i < Int32.ofNat len) (h2 : i.toNatClampNeg < len) (h3 : ((f i.toNatClampNeg &&& 255).toUInt32 % 65536).toInt32 = r) (h4 : r.toUInt32.toUInt16.toUInt32.toInt32 = r) : Met l ty_lchar (tWs ty_lchar prog_26_method_2_code 2 (some .char)) (tRm 2) (va_Pc [.ref v, .int i] (tX A a v len f)) (tPost (some (.int r))) 0 0 A := by
  refine Met.ofW (cc := prog_26_method_2_code) (maxL := 2) (ret := (some .char)) (by decide) rfl ?_
  intro p e s mm args below meth c s₁ B hml hv
  obtain ⟨rfl, hX⟩ := hv
  have hts : ∀ z ∈ xW, z.before ([.ref v, .int i] : List Value).toArray s = true := fun z hz => atoms_spec (ws := tWs ty_lchar prog_26_method_2_code 2 (some .char)) B.pre z (List.mem_cons_of_mem _ hz)
  have hown : s.vm.findClass "java/lang/StringLatin1" = some mm.cls := findClass_of_methodNamed B.named
  have hr := B.returns
  have hx := B.exec
  have hb := B.bytes
  have hl := lv_entry ([.ref v, .int i] : List Value) (n := 2) (Nat.le_of_ble_eq_true rfl)
  rw [lg_entry_eq]
  generalize (lg_sl ([.ref v, .int i] : List Value) ++ List.replicate (2 - (lg_sl ([.ref v, .int i] : List Value)).length) Slot.unset).toArray = ls at hl ⊢
  have hq : ∀ t : State, t.heap = s.heap → tPost (some (.int r)) ([.ref v, .int i] : List Value).toArray s (.returned (some (.int r))) t := fun t ht => ⟨rfl, ht⟩
  have hrf : va_S A s.heap s.heap [] := va_S.rf
  refine lv_iload_n hx hb td_lchar_0 (i := 1) rfl (lv_at hl 1 rfl) ?_
  refine lv_aload_n hx hb td_lchar_1 (i := 0) rfl (lv_at hl 0 rfl) ?_
  refine va_tlen hx hb hX.2.2.2.2.2 hrf rfl td_lchar_2 ?_
  refine t_callk (va_runS (As := [.int i, .int (Int32.ofNat len)]) (rest := _) ⟨hx, hb, hml, hown, hts⟩ (t_scheck (l := l) (A := A) (a := a) (v := v) (len := len) (f := f) (i := i) (n := Int32.ofNat len) h0 h1) (va_cwS 2 hts (own := "java/lang/StringLatin1") (index := 9) (tgoodS (txW (by decide +kernel) rfl) (txW (by decide +kernel) rfl) (txW (by decide +kernel) rfl) (txW (by decide +kernel) rfl)) rfl rfl rfl ⟨by decide, by decide, rfl⟩ ⟨Nat.le_of_ble_eq_true rfl, Nat.le_of_ble_eq_true rfl⟩) ⟨tblind A a v len f _, fun U hU hW => ⟨rfl, hX.to hW hrf hU⟩⟩ rfl rfl hl.1 rfl (lv_room (Nat.le_of_ble_eq_true rfl)) td_lchar_3 ⟨Nat.le_refl _, Nat.le_refl _⟩) hrf (fun locs1 hS1 => ?_)
  refine lv_aload_n hx hb td_lchar_6 (i := 0) rfl (lv_at hl 0 rfl) ?_
  refine lv_iload_n hx hb td_lchar_7 (i := 1) rfl (lv_at hl 1 rfl) ?_
  refine va_tb hx hb hX.2.2.2.2.2 hS1 (fun q => q.elim h0 (Nat.not_le.mpr h2)) rfl td_lchar_8 ?_
  refine lv_sipush hx hb td_lchar_9 (v := 255) rfl ?_
  refine lv_iand hx hb td_lchar_12 ?_
  refine lv_i2c hx hb td_lchar_13 h3 ?_
  exact W.zret hx hb hr (congrArg Value.int h4) (fun t ht _ => hq t ht) hS1.2.2 td_lchar_14
abbrev ty_charAt : MethodName := ⟨"java/lang/String", "charAt", "(I)C"⟩
theorem td_charAt_0 : decode prog_25_method_56_code 0 = .ok (.aload_n 0, 1) := by decide +kernel
theorem td_charAt_1 : decode prog_25_method_56_code 1 = .ok (.invokevirtual 492, 3) := by decide +kernel
theorem td_charAt_4 : decode prog_25_method_56_code 4 = .ok (.ifCond .eq 12, 3) := by decide +kernel
theorem td_charAt_7 : decode prog_25_method_56_code 7 = .ok (.aload_n 0, 1) := by decide +kernel
theorem td_charAt_8 : decode prog_25_method_56_code 8 = .ok (.getfield 9, 3) := by decide +kernel
theorem td_charAt_11 : decode prog_25_method_56_code 11 = .ok (.iload_n 1, 1) := by decide +kernel
theorem td_charAt_12 : decode prog_25_method_56_code 12 = .ok (.invokestatic 495, 3) := by decide +kernel
theorem td_charAt_15 : decode prog_25_method_56_code 15 = .ok (.ireturn, 1) := by decide +kernel
theorem t_charAt {i r : Int32} (h0 : ¬ i < 0) (h1 : i < Int32.ofNat len) (h2 : i.toNatClampNeg < len) (h3 : ((f i.toNatClampNeg &&& 255).toUInt32 % 65536).toInt32 = r) (h4 : r.toUInt32.toUInt16.toUInt32.toInt32 = r) : Met l ty_charAt (tWs ty_charAt prog_25_method_56_code 2 (some .char)) (tRm 3) (va_Pc [.ref a, .int i] (tX A a v len f)) (tPost (some (.int r))) 0 0 A := by
  refine Met.ofW (cc := prog_25_method_56_code) (maxL := 2) (ret := (some .char)) (by decide) rfl ?_
  intro p e s mm args below meth c s₁ B hml hv
  obtain ⟨rfl, hX⟩ := hv
  have hts : ∀ z ∈ xW, z.before ([.ref a, .int i] : List Value).toArray s = true := fun z hz => atoms_spec (ws := tWs ty_charAt prog_25_method_56_code 2 (some .char)) B.pre z (List.mem_cons_of_mem _ hz)
  have hown : s.vm.findClass "java/lang/String" = some mm.cls := findClass_of_methodNamed B.named
  have hr := B.returns
  have hx := B.exec
  have hb := B.bytes
  have hl := lv_entry ([.ref a, .int i] : List Value) (n := 2) (Nat.le_of_ble_eq_true rfl)
  rw [lg_entry_eq]
  generalize (lg_sl ([.ref a, .int i] : List Value) ++ List.replicate (2 - (lg_sl ([.ref a, .int i] : List Value)).length) Slot.unset).toArray = ls at hl ⊢
  have hq : ∀ t : State, t.heap = s.heap → tPost (some (.int r)) ([.ref a, .int i] : List Value).toArray s (.returned (some (.int r))) t := fun t ht => ⟨rfl, ht⟩
  have hrf : va_S A s.heap s.heap [] := va_S.rf
  have hrecv : ∃ cell : Cell, s.heap[a]? = some cell ∧ cell.vm.isStatics = false ∧ s.vm.findClass "java/lang/String" = some cell.cls := by obtain ⟨cell, h1, h2, h3, -⟩ := hX.2.2.1; exact ⟨cell, h1, h2, h3⟩
  refine lv_aload_n hx hb td_charAt_0 (i := 0) rfl (lv_at hl 0 rfl) ?_
  refine t_callk (va_runV (b := a) (As := []) (rest := _) ⟨hx, hb, hml, hown, hts⟩ (t_latin (l := l) (A := A) (a := a) (v := v) (len := len) (f := f)) (cwV 0 hts (C := "java/lang/String") (own := "java/lang/String") (index := 492) (tgoodV (txW (by decide +kernel) rfl) (txW (by decide +kernel) rfl) (txW (by decide +kernel) rfl) (txW (by decide +kernel) rfl) (txW (by decide +kernel) rfl)) rfl rfl rfl ⟨rfl, by decide, by decide, rfl⟩ ⟨Nat.le_of_ble_eq_true rfl, Nat.le_of_ble_eq_true rfl⟩) ⟨tblind A a v len f _, hrecv, fun U hU hW => ⟨rfl, hX.to hW hrf hU⟩⟩ rfl rfl hl.1 rfl (lv_room (Nat.le_of_ble_eq_true rfl)) td_charAt_1 ⟨Nat.le_refl _, Nat.le_refl _⟩) hrf (fun locs1 hS1 => ?_)
  refine lv_if_eq hx hb td_charAt_4 (tgt := 16) rfl (fun h => absurd h (by decide)) (fun _ => ?_)
  refine lv_aload_n hx hb td_charAt_7 (i := 0) rfl (lv_at hl 0 rfl) ?_
  refine vk_getf hx hb hX.2.2.2.2.1 hS1 hown (hts _ (txW (w := .fieldLink "java/lang/String" 9 "java/lang/String" "value" "[B") (by decide +kernel) rfl)) (fun _ h => h) td_charAt_8 ?_
  refine lv_iload_n hx hb td_charAt_11 (i := 1) rfl (lv_at hl 1 rfl) ?_
  refine t_callk (va_runS (As := [.ref v, .int i]) (rest := _) ⟨hx, hb, hml, hown, hts⟩ (t_lchar (l := l) (A := A) (a := a) (v := v) (len := len) (f := f) (i := i) (r := r) h0 h1 h2 h3 h4) (va_cwS 2 hts (own := "java/lang/String") (index := 495) (tgoodS (txW (by decide +kernel) rfl) (txW (by decide +kernel) rfl) (txW (by decide +kernel) rfl) (txW (by decide +kernel) rfl)) rfl rfl rfl ⟨by decide, by decide, rfl⟩ ⟨Nat.le_of_ble_eq_true rfl, Nat.le_of_ble_eq_true rfl⟩) ⟨tblind A a v len f _, fun U hU hW => ⟨rfl, hX.to hW hS1 hU⟩⟩ rfl rfl hl.1 rfl (lv_room (Nat.le_of_ble_eq_true rfl)) td_charAt_12 ⟨Nat.le_refl _, Nat.le_refl _⟩) hS1 (fun locs2 hS2 => ?_)
  exact W.zret hx hb hr (congrArg Value.int h4) (fun t ht _ => hq t ht) hS2.2.2 td_charAt_15
end TXB
