/-! a run of the abstract machine holds of the machine -/
theorem xgo_eq (ih : XRun) (d : Nat) (w : XRow) (t : Nat) (lv : List (Nat × Value)) (st : List Value) (m : XM) : xgo ih d w t lv st m = ih d w (xfind w.2.2.2.2.2 t).1 (xfind w.2.2.2.2.2 t).2 lv st m := rfl
theorem xrun_0 (P : Nat → Nat → XRow) (d : Nat) (w : XRow) (code : List XI) (fall : Nat) (lv : List (Nat × Value)) (st : List Value) (m : XM) : xrun P 0 d w code fall lv st m = none := rfl
theorem xrun_s (P : Nat → Nat → XRow) (f d : Nat) (w : XRow) (code : List XI) (fall : Nat) (lv : List (Nat × Value)) (st : List Value) (m : XM) : xrun P (f + 1) d w code fall lv st m = xbody P (xrun P f) d w code fall lv st m := rfl
theorem xrun_mono {P : Nat → Nat → XRow} : ∀ (f d : Nat) (w : XRow) (code : List XI) (fall : Nat) (lv : List (Nat × Value)) (st : List Value) (m : XM) (v : Option Value) (mF : XM), xrun P f d w code fall lv st m = some (v, mF) → xmle m mF := by
  intro f
  induction f with
  | zero => intro d w code fall lv st m v mF h; rw [xrun_0] at h; cases h
  | succ f ih =>
    intro d w code fall lv st m v mF h
    rw [xrun_s] at h
    unfold xbody at h
    split at h
    · rw [xgo_eq] at h; exact ih _ _ _ _ _ _ _ _ _ h
    · split at h
      · next q hq => exact (xsim_mono (lv' := q.1) (st' := q.2.1) (m' := q.2.2) hq).tr (ih _ _ _ _ _ _ _ _ _ h)
      · split at h
        · split at h
          · rw [xgo_eq] at h; exact ih _ _ _ _ _ _ _ _ _ h
          · exact ih _ _ _ _ _ _ _ _ _ h
        · split at h
          · split at h
            · split at h
              · cases h
              · split at h
                · next o ho =>
                  rw [xgo_eq] at ho
                  exact (ih _ _ _ _ _ _ _ _ _ (show xrun P f _ _ _ _ _ _ _ = some (o.1, o.2) from ho)).tr (ih _ _ _ _ _ _ _ _ _ h)
                · cases h
            · cases h
          · split at h
            · cases h; exact xmle.rf
            · cases h
theorem xlv_args (E : XE) : ∀ (vs : List Value) (n : Nat), lv_args n (xcs E vs) = xlv E (lv_args n vs)
  | [], _ => rfl
  | v :: vs, n => by
    show (n, xc E v) :: lv_args (if (xc E v).category = 2 then n + 2 else n + 1) (xcs E vs) = (n, xc E v) :: xlv E (lv_args (if v.category = 2 then n + 2 else n + 1) vs)
    rw [xc_cat, xlv_args E vs]
theorem xsl_len : ∀ (vs : List Value), (lg_sl vs).length = xcats vs
  | [] => rfl
  | v :: vs => by
    unfold lg_sl xcats
    rw [List.flatMap_cons, List.length_append, List.map_cons, List.sum_cons]
    have h := xsl_len vs
    unfold lg_sl xcats at h
    rw [h]
    congr 1
    rcases lv_cat v with h1 | h1 <;> simp [h1]
theorem xfind_ok1 {w : XRow} (h : xRowOk w = true) (t : Nat) : xOkC w t (xfind w.2.2.2.2.2 t).1 (xfind w.2.2.2.2.2 t).2 = true := by
  unfold xRowOk at h
  generalize w.2.2.2.2.2 = bs at h
  induction bs with
  | nil => exact beq_self_eq_true t
  | cons q r ih =>
    rw [List.all_cons, Bool.and_eq_true] at h
    unfold xfind
    split
    · next e => subst e; exact h.1
    · exact ih h.2
theorem xfind_ok2 {w : XRow} (h : xRowY w = true) (t : Nat) : (xfind w.2.2.2.2.2 t).1.all (xOkY w.1) = true := by
  unfold xRowY at h
  generalize w.2.2.2.2.2 = bs at h
  induction bs with
  | nil => rfl
  | cons q r ih =>
    rw [List.all_cons, Bool.and_eq_true] at h
    unfold xfind
    split
    · exact h.1
    · exact ih h.2
theorem xfind_ok {w : XRow} (h : xGood w) (t : Nat) : xGc w t (xfind w.2.2.2.2.2 t).1 (xfind w.2.2.2.2.2 t).2 := ⟨xfind_ok1 h.1 t, xfind_ok2 h.2 t⟩
/-- where the run began: what is old stays -/
def xSt (E : XE) (s : State) (H0 : Heap) : Prop := xbase E ≤ H0.size ∧ H0 = s.heap ∧ xStat E s s.heap
/-- a method's words: its own code, and all that stay -/
def xWs (y : MethodName) (bytes : ByteArray) (maxL : Nat) (ret : Option FieldType) : List Cond := .code y bytes maxL ret :: xW
def xrm (d mc ms : Nat) : Room := { frames := d + 5, cells := mc, slots := ms, locals := 50 * (d + 5) }
def xPre (E : XE) (m : XM) (U : State) : Prop := xRep E m U.heap ∧ xEnv E U ∧ xStat E U U.heap
def xPost (E : XE) (v : Option Value) (m : XM) : Array Value → State → Outcome → State → Prop := fun _ st oc t => oc = .returned (v.map (xc E)) ∧ (xRep E m t.heap ∧ xKn m ∧ xOld m) ∧ va_F (xA E) st t
theorem xblind (E : XE) (m : XM) (av : List Value) : FrameBlind (va_Pc av (xPre E m)) := by
  intro a U g mk h
  obtain ⟨h0, h1, ⟨e1, e2, e3, e4, e5⟩, h3⟩ := h
  refine ⟨h0, h1, ⟨va_K.moved (u := U) (U := U.calling g mk a) (Vm.Alike.refl U.vm) e1, fun k h1 h2 => e2 k h1 h2, fun e he => va_Nw.same rfl rfl (e3 e he), fun e he => va_Nw.same rfl rfl (e4 e he), va_AO.moved (u := U) (U := U.calling g mk a) (Vm.Alike.refl U.vm) e5⟩, ⟨fun k h1 h2 => va_Z.moved (u := U) (U := U.calling g mk a) (Vm.Alike.refl U.vm) (h3.1 k h1 h2), fun i hi => ?_⟩⟩
  obtain ⟨h4, v, h5⟩ := h3.2 i hi
  exact ⟨h4.same rfl, v, (tblind (xA E) _ v _ _ a.toList a U g mk ⟨by simp, h5⟩).2⟩
