/-! every run holds of the machine -/
section XQA
variable {p : Program} {l : Launch} {e : Env} {R : Room} {s : State} {mm : MethodId} {args : Array Value} {below : List Frame} {meth : Method} {c : Code} {H H0 : Heap} {locs : List Loc} {Q : State → Prop} {ls : Array Slot} {E : XE} {m m' mF : XM} {w : XRow}
theorem xcats_drop {n : Nat} {st : List Value} {v : Value} {r : List Value} (h : st.drop n = v :: r) : st = ((st.take n).reverse).reverse ++ v :: r ∧ (st.take n).length = n := by
  refine ⟨by rw [List.reverse_reverse, ← h, List.take_append_drop], ?_⟩
  have hl : (st.drop n).length = r.length + 1 := by rw [h]; rfl
  rw [List.length_drop] at hl
  rw [List.length_take]
  omega
theorem xcs_app (E : XE) (a b : List Value) : xcs E (a ++ b) = xcs E a ++ xcs E b := List.map_append
theorem xcs_rev (E : XE) (a : List Value) : xcs E a.reverse = (xcs E a).reverse := List.map_reverse
theorem xcs_len (E : XE) (a : List Value) : (xcs E a).length = a.length := List.length_map _
theorem xword {w : Cond} (hts : ∀ z ∈ xW, z.before args s = true) (h : w ∈ tables_1) (hg : goodWord w = true) : w.before args s = true := hts _ (xW_of h hg)
theorem xroom5 {z d K : Nat} (h : z ≤ 31) (h2 : 50 * (d + 1 + 5) ≤ K) : 8 + (z + 11) + 50 * (d + 5) ≤ K := by
  rw [Nat.add_right_comm d 1 5, Nat.mul_add 50 (d + 5) 1] at h2
  generalize 50 * (d + 5) = y at h2 ⊢
  omega
theorem xcall_ok {P : Nat → Nat → XRow} {f d : Nat} (hih : xSnd l E P f) (hA : xEad E) (hP : xPok P) (hx : p.tables.exec = Jvm.exec) (hb : c.code = w.2.2.1) (hml : c.maxLocals = w.2.2.2.1) (hts : ∀ z ∈ xW, z.before args s = true) (hown : s.vm.findClass (xcn w.1) = some mm.cls) (hE : xEnv E s)
    (hfr : d + 1 + 5 ≤ R.frames) (hlo : 50 * (d + 1 + 5) ≤ R.locals) {cells slots : Nat}
    (hR : xRep E m H) (hK : xKn m) (hO : xOld m) (hS : va_S (xA E) H0 H locs) (hbase : xSt E s H0) (hsz : ls.size = w.2.2.2.1) {x : XI} {st av rest : List Value} {row : XRow} {v : Option Value} {ini : Bool}
    (hc : xcall P x.2.1 x.2.2.1 x.2.2.2.1 st m = some (row, av, rest)) (hav : xcats av ≤ row.2.2.2.1) (hrun : xgo (xrun P f) d row 0 (lv_args 0 av) [] m = some (v, m'))
    (hcells : cells + (xn m' - xn m) ≤ R.cells) (hslots : slots + (xw m' - xw m) ≤ R.slots)
    (hd : decode w.2.2.1 x.1 = .ok (x.2.1, xlen x.2.1)) (hok : xOkX w.1 ini x = true)
    (kk : ∀ (H1 : Heap) (locs1 : List Loc), xRep E m' H1 → xKn m' → xOld m' → va_S (xA E) H0 H1 locs1 → W p l e R s mm args below meth c H1 locs1 (cells + (xn m' - xn m)) (slots + (xw m' - xw m)) Q (F0 mm (x.1 + 3) ls (xcs E (v.toList ++ rest)))) :
    W p l e R s mm args below meth c H locs cells slots Q (F0 mm x.1 ls (xcs E st)) := by
  obtain ⟨pc, i, a, b, cc⟩ := x
  dsimp only at *
  have hkk : ∀ (H1 : Heap) (locs1 : List Loc), xRep E m' H1 → xKn m' → xOld m' → va_S (xA E) H0 H1 locs1 → W p l e R s mm args below meth c H1 locs1 (cells + (xn m' - xn m)) (slots + (xw m' - xw m)) Q (F0 mm (pc + 3) ls ((v.map (xc E)).toList ++ xcs E rest)) := by
    intro H1 locs1 r1 r2 r3 r4
    have h9 := kk H1 locs1 r1 r2 r3 r4
    rw [xcs_app] at h9
    rw [show (v.map (xc E)).toList = xcs E v.toList by cases v <;> rfl]
    exact h9
  have hZu : ∀ U : State, U.heap = H → s.WarmedH U.vm → xStat E U U.heap := fun U hU hW => by
    obtain ⟨-, rfl, hZ⟩ := hbase
    exact hZ.to hW hS hU
  unfold xcall at hc
  split at hc
  · split at hc
    · next k r hdrop =>
      split at hc
      · next hk =>
        cases hc
        obtain ⟨⟨bs, hrow⟩, hrok⟩ := hP a (b / 64)
        have ha22 : a < 22 := hk.2.1
        rw [xOkX] at hok
        dsimp only at hok
        rw [if_neg (by omega)] at hok
        simp only [Bool.and_eq_true, Bool.or_eq_true, beq_iff_eq, List.contains_iff_mem, xbF_iff, xbM_iff, xbI_iff, xbT_iff, xbS_iff, xbP_iff, xbC_iff, List.any_eq_true, decide_eq_true_eq] at hok
        obtain ⟨hl1, him, hse, hit, hco, hna, ha2⟩ := hok
        obtain ⟨hst, htk⟩ := xcats_drop hdrop
        have hnp := List.all_eq_true.mp xnp_ok _ hco
        simp only [Bool.and_eq_true, decide_eq_true_eq] at hnp
        have hM := x_met (c0 := a) (i0 := b / 64) hih hA hP ha22 hrun (by rw [hrow] at hav; exact hav) hK hO
        have hstack : xcs E st = (xcs E (st.take (b % 64)).reverse).reverse ++ .ref (xad E k) :: xcs E rest := by
          rw [← xcs_rev]
          conv => lhs; rw [hst]
          rw [xcs_app]
          rfl
        have hin := xin_code hco
        have hwo : 2 * (F0 mm pc ls (xcs E st)).monitorRoom + ((xcs E rest).map fun v => v.category).sum ≤ 8 := lv_room (by rw [xcs_cats]; exact xblt8 hk.2.2)
        have hmx := Nat.le_of_ble_eq_true hnp.2
        have hR2 : (xrm d (xn m' - xn m) (xw m' - xw m)).frames + 1 ≤ R.frames ∧ 8 + ((xmr a (b / 64)).2.2.2.1 + 11) + (xrm d (xn m' - xn m) (xw m' - xw m)).locals ≤ R.locals := by
          refine ⟨hfr, ?_⟩
          show 8 + ((xmr a (b / 64)).2.2.2.1 + 11) + 50 * (d + 5) ≤ R.locals
          exact xroom5 hmx hlo
        have hsel : Cond.selects (xcn a) (xmn a (b / 64)) (xmn a (b / 64)) ∈ xW := hse.elim (fun h => xW_sel h) (fun h => xW_of (x_in (fun e : Nat × Nat => Cond.selects (xcn e.1) (xmn e.1 e.2) (xmn e.1 e.2)) xSE_ok h) rfl)
        have hinst : Cond.instanceMethod (xmn a (b / 64)) ∈ xW := xW_of (x_in (fun e : Nat × Nat => Cond.instanceMethod (xmn e.1 e.2)) xIM_ok him) rfl
        have hini : Cond.initialized (xcn a) ∈ xW := xW_of (x_in (fun e : Nat => Cond.initialized (xcn e)) xIT_ok hit) rfl
        have hrecv : ∃ cellB : Cell, H[xad E k]? = some cellB ∧ cellB.vm.isStatics = false ∧ s.vm.findClass (xcn a) = some cellB.cls := by
          have h1 := hR.2.1 k hk.1.1 hk.1.2.1
          unfold xcell at h1
          rw [if_pos (by rw [hk.1.2.2]; omega), hk.1.2.2] at h1
          obtain ⟨-, cell, q1, q2, q3, -⟩ := h1
          obtain ⟨C, c1, c2, -⟩ := xcok_all a ha22
          have hfc := (hE.1.1 a _ c1).2.1
          exact ⟨cell, q1, by rw [q3]; rfl, by rw [c2, q2]; exact hfc⟩
        have hpre : PreV s H (xcn a) (xad E k) (va_Pc (xcs E (.ref k :: (st.take (b % 64)).reverse)) (xPre E m)) (xcs E (st.take (b % 64)).reverse) :=
          ⟨xblind E m _, hrecv, fun U hU hW => ⟨rfl, by rw [hU]; exact hR, hE.warm hW, hZu U hU hW⟩⟩
        have hlenA : (xcs E (st.take (b % 64)).reverse).length = xna a (b / 64) := by rw [xcs_len, List.length_reverse, htk, hna]
        rcases hl1 with hl1 | ⟨e1, he1, h8⟩
        · refine x_callk (va_runV (As := xcs E (st.take (b % 64)).reverse) (rest := xcs E rest) ⟨hx, hb, hml, hown, hts⟩ hM (cwV (xna a (b / 64)) hts (C := xcn a) (own := xcn w.1) (index := _) ?_ rfl rfl rfl ⟨rfl, (xcn_ne a ha22).1, (xcn_ne a ha22).2.1, hnp.1⟩ hR2) hpre rfl hlenA hsz hstack hwo hd ⟨hcells, hslots⟩) hS hkk
          refine xgood fun z hz => ?_
          unfold wsV at hz
          rcases List.mem_append.mp hz with h7 | h7
          · rcases List.mem_cons.mp h7 with h6 | h7
            · rw [h6]; exact xW_of (x_in xmw xML_ok hl1) rfl
            · rcases List.mem_cons.mp h7 with h6 | h7
              · rw [h6]; exact hinst
              · rcases List.mem_cons.mp h7 with h6 | h7
                · rw [h6]; exact hsel
                · rcases List.mem_cons.mp h7 with h6 | h7
                  · rw [h6]; exact hini
                  · cases h7
          · exact hin z h7
        · obtain ⟨o1, o2, o3, o4, o5⟩ := e1
          dsimp only at h8
          cases h8
          have hnw := hE.2.2.2.1 _ he1
          unfold xmv at hnw
          exact x_callk (va_runVN (As := xcs E (st.take (b % 64)).reverse) (rest := xcs E rest) ⟨hx, hb, hml, hown, hts⟩ hM ⟨va_cnB (xna a (b / 64)) hts (xgood hin) rfl rfl rfl hnw (hts _ hini) ⟨(xcn_ne a ha22).1, (xcn_ne a ha22).2.1, hnp.1⟩ hR2, hts _ hinst, hts _ hsel⟩ hpre rfl hlenA hsz hstack hwo hd ⟨hcells, hslots⟩) hS hkk
      · cases hc
    · cases hc
  · split at hc
    · next k r hdrop =>
      split at hc
      · next hk =>
        cases hc
        have ha22 : a < 22 := hk.1
        obtain ⟨⟨bs, hrow⟩, hrok⟩ := hP a (b / 64)
        rw [xOkX] at hok
        dsimp only at hok
        rw [if_neg (by omega)] at hok
        simp only [Bool.and_eq_true, Bool.or_eq_true, beq_iff_eq, List.contains_iff_mem, xbF_iff, xbM_iff, xbI_iff, xbT_iff, xbS_iff, xbP_iff, xbC_iff, List.any_eq_true, decide_eq_true_eq] at hok
        obtain ⟨hl1, him, hnm, hit, hco, hna, hrn, ha2⟩ := hok
        obtain ⟨hst, htk⟩ := xcats_drop hdrop
        have hnp := List.all_eq_true.mp xnp_ok _ hco
        simp only [Bool.and_eq_true, decide_eq_true_eq] at hnp
        have hM := x_met (c0 := a) (i0 := b / 64) hih hA hP ha22 hrun (by rw [hrow] at hav; exact hav) hK hO
        rw [hrn] at hM
        have hstack : xcs E st = (xcs E (st.take (b % 64)).reverse).reverse ++ .ref (xad E k) :: xcs E rest := by
          rw [← xcs_rev]
          conv => lhs; rw [hst]
          rw [xcs_app]
          rfl
        have hin := xin_code hco
        rw [hrn] at hin
        have hwo : 2 * (F0 mm pc ls (xcs E st)).monitorRoom + ((xcs E rest).map fun v => v.category).sum ≤ 8 := lv_room (by rw [xcs_cats]; exact xblt8 hk.2)
        have hmx := Nat.le_of_ble_eq_true hnp.2
        have hR2 : (xrm d (xn m' - xn m) (xw m' - xw m)).frames + 1 ≤ R.frames ∧ 8 + ((xmr a (b / 64)).2.2.2.1 + 11) + (xrm d (xn m' - xn m) (xw m' - xw m)).locals ≤ R.locals := by
          refine ⟨hfr, ?_⟩
          show 8 + ((xmr a (b / 64)).2.2.2.1 + 11) + 50 * (d + 5) ≤ R.locals
          exact xroom5 hmx hlo
        have hinst : Cond.instanceMethod (xmn a (b / 64)) ∈ xW := xW_of (x_in (fun e : Nat × Nat => Cond.instanceMethod (xmn e.1 e.2)) xIM_ok him) rfl
        have hini : Cond.initialized (xcn a) ∈ xW := xW_of (x_in (fun e : Nat => Cond.initialized (xcn e)) xIT_ok hit) rfl
        have hpre : PreS s H (va_Pc (xcs E (.ref k :: (st.take (b % 64)).reverse)) (xPre E m)) (.ref (xad E k) :: xcs E (st.take (b % 64)).reverse) :=
          ⟨xblind E m _, fun U hU hW => ⟨rfl, by rw [hU]; exact hR, hE.warm hW, hZu U hU hW⟩⟩
        have hlenA : (xcs E (st.take (b % 64)).reverse).length = xna a (b / 64) := by rw [xcs_len, List.length_reverse, htk, hna]
        rcases hl1 with hl1 | ⟨e1, he1, h8⟩
        · exact x_callk (va_runI (As := xcs E (st.take (b % 64)).reverse) (rest := xcs E rest) ⟨hx, hb, hml, hown, hts⟩ hM (cwI (xna a (b / 64)) hts (xgood hin) rfl rfl rfl (hts _ hini) (hts _ (xW_of (x_in xmw xML_ok hl1) rfl)) (hts _ hinst) hnm ⟨(xcn_ne a ha22).1, (xcn_ne a ha22).2.1, hnp.1⟩ hR2) hpre rfl hlenA hsz hstack hwo hd ⟨hcells, hslots⟩) hS hkk
        · obtain ⟨o1, o2, o3, o4, o5⟩ := e1
          dsimp only at h8
          cases h8
          have hnw := hE.2.2.2.1 _ he1
          unfold xmv at hnw
          exact x_callk (va_runIN (As := xcs E (st.take (b % 64)).reverse) (rest := xcs E rest) ⟨hx, hb, hml, hown, hts⟩ hM ⟨va_cnB (xna a (b / 64)) hts (xgood hin) rfl rfl rfl hnw (hts _ hini) ⟨(xcn_ne a ha22).1, (xcn_ne a ha22).2.1, hnp.1⟩ hR2, hnm, hts _ hinst⟩ hpre rfl hlenA hsz hstack hwo hd ⟨hcells, hslots⟩) hS hkk
      · cases hc
    · cases hc
  · split at hc
    · next hk =>
      cases hc
      have ha22 : a < 22 := hk.1
      obtain ⟨⟨bs, hrow⟩, hrok⟩ := hP a (b / 64)
      rw [xOkX] at hok
      dsimp only at hok
      rw [if_neg (by omega)] at hok
      simp only [Bool.and_eq_true, Bool.or_eq_true, beq_iff_eq, List.contains_iff_mem, xbF_iff, xbM_iff, xbI_iff, xbT_iff, xbS_iff, xbP_iff, xbC_iff, List.any_eq_true, decide_eq_true_eq] at hok
      obtain ⟨hl1, hsm, hit, hco, hna, ha2⟩ := hok
      have htk : (st.take (b % 64)).length = b % 64 := by
        rw [List.length_take]
        have := Nat.le_of_ble_eq_true hk.2.1
        omega
      have hnp := List.all_eq_true.mp xnp_ok _ hco
      simp only [Bool.and_eq_true, decide_eq_true_eq] at hnp
      have hM := x_met (c0 := a) (i0 := b / 64) hih hA hP ha22 hrun (by rw [hrow] at hav; exact hav) hK hO
      have hstack : xcs E st = (xcs E (st.take (b % 64)).reverse).reverse ++ xcs E (st.drop (b % 64)) := by
        rw [← xcs_rev, List.reverse_reverse, ← xcs_app, List.take_append_drop]
      have hin := xin_code hco
      have hwo : 2 * (F0 mm pc ls (xcs E st)).monitorRoom + ((xcs E (st.drop (b % 64))).map fun v => v.category).sum ≤ 8 := lv_room (by rw [xcs_cats]; exact xblt8 hk.2.2)
      have hmx := Nat.le_of_ble_eq_true hnp.2
      have hR2 : (xrm d (xn m' - xn m) (xw m' - xw m)).frames + 1 ≤ R.frames ∧ 8 + ((xmr a (b / 64)).2.2.2.1 + 11) + (xrm d (xn m' - xn m) (xw m' - xw m)).locals ≤ R.locals := by
        refine ⟨hfr, ?_⟩
        show 8 + ((xmr a (b / 64)).2.2.2.1 + 11) + 50 * (d + 5) ≤ R.locals
        exact xroom5 hmx hlo
      have hstat : Cond.static (xmn a (b / 64)) ∈ xW := xW_of (x_in (fun e : Nat × Nat => Cond.static (xmn e.1 e.2)) xSM_ok hsm) rfl
      have hini : Cond.initialized (xcn a) ∈ xW := xW_of (x_in (fun e : Nat => Cond.initialized (xcn e)) xIT_ok hit) rfl
      have hpre : PreS s H (va_Pc (xcs E (st.take (b % 64)).reverse) (xPre E m)) (xcs E (st.take (b % 64)).reverse) :=
        ⟨xblind E m _, fun U hU hW => ⟨rfl, by rw [hU]; exact hR, hE.warm hW, hZu U hU hW⟩⟩
      have hlenA : (xcs E (st.take (b % 64)).reverse).length = xna a (b / 64) := by rw [xcs_len, List.length_reverse, htk, hna]
      rcases hl1 with hl1 | ⟨e1, he1, h8⟩
      · refine x_callk (va_runS (As := xcs E (st.take (b % 64)).reverse) (rest := xcs E (st.drop (b % 64))) ⟨hx, hb, hml, hown, hts⟩ hM (va_cwS (xna a (b / 64)) hts (own := xcn w.1) (index := _) ?_ rfl rfl rfl ⟨(xcn_ne a ha22).1, (xcn_ne a ha22).2.1, hnp.1⟩ hR2) hpre rfl hlenA hsz hstack hwo hd ⟨hcells, hslots⟩) hS hkk
        refine xgood fun z hz => ?_
        unfold va_wsS at hz
        rcases List.mem_append.mp hz with h7 | h7
        · rcases List.mem_cons.mp h7 with h6 | h7
          · rw [h6]; exact xW_of (x_in xmw xML_ok hl1) rfl
          · rcases List.mem_cons.mp h7 with h6 | h7
            · rw [h6]; exact hstat
            · rcases List.mem_cons.mp h7 with h6 | h7
              · rw [h6]; exact hini
              · cases h7
        · exact hin z h7
      · obtain ⟨o1, o2, o3, o4, o5⟩ := e1
        dsimp only at h8
        cases h8
        have hnw := hE.2.2.2.1 _ he1
        unfold xmv at hnw
        exact x_callk (va_runSN (As := xcs E (st.take (b % 64)).reverse) (rest := xcs E (st.drop (b % 64))) ⟨hx, hb, hml, hown, hts⟩ hM ⟨va_cnB (xna a (b / 64)) hts (xgood hin) rfl rfl rfl hnw (hts _ hini) ⟨(xcn_ne a ha22).1, (xcn_ne a ha22).2.1, hnp.1⟩ hR2, hts _ hstat, trivial⟩ hpre rfl hlenA hsz hstack hwo hd ⟨hcells, hslots⟩) hS hkk
    · cases hc
  · cases hc
theorem xcall_len {P : Nat → Nat → XRow} {i : Instr} {a b : Nat} {st : List Value} {m : XM} {q : XRow × List Value × List Value} (h : xcall P i a b st m = some q) : xlen i = 3 ∧ xisw i = false := by
  unfold xcall at h
  split at h
  all_goals first | exact ⟨rfl, rfl⟩ | cases h
theorem xret_len {r : Option FieldType} {i : Instr} {st : List Value} {v : Option Value} (h : xret r i st = some v) : xlen i = 1 ∧ xisw i = false := by
  unfold xret at h
  split at h
  all_goals first | exact ⟨rfl, rfl⟩ | cases h
theorem x_sound {P : Nat → Nat → XRow} (hA : xEad E) (hP : xPok P) : ∀ f, xSnd l E P f := by
  intro f
  induction f with
  | zero => intro d w code fall lv st m v mF h; rw [xrun_0] at h; cases h
  | succ f ih =>
    intro d w code fall lv st m v mF h hw pc hc p e R s mm args below meth c Q H H0 locs ls nE wE hx hb hml hts hown hmn hE hfr hlo hc1 hc2 hn1 hn2 hR hK hO hS hl hbase hfin
    rw [xrun_s] at h
    unfold xbody at h
    split at h
    · have hpc : pc = fall := by
        have hc1 := hc.1
        unfold xOkC at hc1
        exact beq_iff_eq.mp hc1
      subst hpc
      rw [xgo_eq] at h
      exact ih d w _ _ lv st m v mF h hw _ (xfind_ok hw _) hx hb hml hts hown hmn hE hfr hlo hc1 hc2 hn1 hn2 hR hK hO hS hl hbase hfin
    · next x r =>
      obtain ⟨hc, hcy⟩ := hc
      rw [List.all_cons, Bool.and_eq_true] at hcy
      unfold xOkC at hc
      simp only [Bool.and_eq_true] at hc
      obtain ⟨hpc, hc⟩ := hc
      split at hc
      · next q hq =>
        simp only [Bool.and_eq_true, decide_eq_true_eq, Bool.or_eq_true] at hc
        obtain ⟨hi, hlen, hj, hlk, hrest⟩ := hc
        have hpc' : x.1 = pc := beq_iff_eq.mp hpc
        subst hpc'
        have hd : decode w.2.2.1 x.1 = .ok (x.2.1, q.2) := by rw [hq, ← hi]
        have hlen' : xisw x.2.1 = true ∨ q.2 = xlen x.2.1 := hlen.elim Or.inl (fun h => Or.inr (beq_iff_eq.mp h))
        split at h
        · next q2 hq2 =>
          have hmo := xrun_mono _ _ _ _ _ _ _ _ _ _ h
          refine xsim_ok (lv' := q2.1) (st' := q2.2.1) (m' := q2.2.2) hx hb hml hts hown hmn hE hA (by omega) (by omega) hc1 hc2 hn1 hn2 hmo hR hK hO hS hl hq2 hd hlen' hlk hcy.1 hbase.2.1 hbase.2.2 (fun H1 locs1 ls1 r1 r2 r3 r4 r5 => ?_)
          have hms := xsim_mono (lv' := q2.1) (st' := q2.2.1) (m' := q2.2.2) hq2
          exact ih d w r fall _ _ _ v mF h hw _ ⟨hrest, hcy.2⟩ hx hb hml hts hown hmn hE hfr hlo hc1 hc2 (Nat.le_trans hn1 hms.1) (Nat.le_trans hn2 hms.2) r1 r2 r3 r4 r5 hbase hfin
        · split at h
          · next q2 hq2 =>
            refine xbr_ok (o := q2.1) (st' := q2.2) hx hb hq2 hd hj hlen' (fun t ht => ?_) (fun ht => ?_)
            · rw [ht] at h
              dsimp only at h
              rw [xgo_eq] at h
              exact ih d w _ _ lv _ m v mF h hw _ (xfind_ok hw _) hx hb hml hts hown hmn hE hfr hlo hc1 hc2 hn1 hn2 hR hK hO hS hl hbase hfin
            · rw [ht] at h
              dsimp only at h
              exact ih d w r fall lv _ m v mF h hw _ ⟨hrest, hcy.2⟩ hx hb hml hts hown hmn hE hfr hlo hc1 hc2 hn1 hn2 hR hK hO hS hl hbase hfin
          · split at h
            · next q2 hq2 =>
              split at h
              · next hav =>
                split at h
                · cases h
                · next d' =>
                  split at h
                  · next o ho =>
                    have hcl := xcall_len hq2
                    have hl3 : q.2 = xlen x.2.1 := hlen'.resolve_left (by rw [hcl.2]; decide)
                    have hmo := xrun_mono _ _ _ _ _ _ _ _ _ _ h
                    have hmc : xmle m o.2 := by
                      rw [xgo_eq] at ho
                      exact xrun_mono _ _ _ _ _ _ _ _ _ _ (show xrun P f _ _ _ _ _ _ _ = some (o.1, o.2) from ho)
                    have e1 : xn m - nE + (xn o.2 - xn m) = xn o.2 - nE := by have := hmc.1; omega
                    have e2 : xw m - wE + (xw o.2 - xw m) = xw o.2 - wE := by have := hmc.2; omega
                    refine xcall_ok ih hA hP hx hb hml hts hown hE hfr hlo hR hK hO hS hbase hl.1 (x := x) (st := st) (av := q2.2.1) (rest := q2.2.2) (row := q2.1) (v := o.1) (m' := o.2) (ini := w.2.1.name == "<init>") hq2 (Nat.le_of_ble_eq_true hav) ho ?_ ?_ (by rw [← hl3]; exact hd) hlk (fun H1 locs1 r1 r2 r3 r4 => ?_)
                    · rw [e1]; have := hmo.1; omega
                    · rw [e2]; have := hmo.2; omega
                    · rw [e1, e2]
                      have h9 := ih (d' + 1) w r fall lv _ _ v mF h hw _ ⟨hrest, hcy.2⟩ (p := p) (e := e) (R := R) (s := s) (mm := mm) (args := args) (below := below) (meth := meth) (c := c) (Q := Q) (H := H1) (H0 := H0) (locs := locs1) (ls := ls) (nE := nE) (wE := wE) hx hb hml hts hown hmn hE hfr hlo hc1 hc2 (Nat.le_trans hn1 hmc.1) (Nat.le_trans hn2 hmc.2) r1 r2 r3 r4 hl hbase hfin
                      rw [hl3, hcl.1] at h9
                      exact h9
                  · cases h
              · cases h
            · split at h
              · next v2 hv2 =>
                cases h
                have hrl := xret_len hv2
                have hl1 : q.2 = xlen x.2.1 := hlen'.resolve_left (by rw [hrl.2]; decide)
                exact hfin x.2.1 st H locs ls x.1 hv2 (by rw [hd, hl1, hrl.1]) hR hK hO hS
              · cases h
      · cases hc
end XQA
