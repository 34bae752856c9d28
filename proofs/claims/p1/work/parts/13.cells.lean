/-! fields written, places read, cells made, constants -/
theorem xbit {x : Int32} (h : x &&& 1 = x) : x = 0 ∨ x = 1 := by
  obtain ⟨j, hj, e⟩ := pk_andE x (m := 1) 1 (by decide)
  rw [h] at e
  have h2 : j = 0 ∨ j = 1 := by omega
  rcases h2 with rfl | rfl
  · exact Or.inl e
  · exact Or.inr e
/-- a field's new value is one that its type takes -/
theorem xput_fit {E : XE} {m m' : XM} {ty : FieldType} {k j : Nat} {v : Value} (h : xput m (xkd ty) k j v = some m') : narrow ty (xc E v) = xc E v ∧ fits ty (xc E v) = true := by
  cases ty with
  | int => cases v <;> first | exact ⟨rfl, rfl⟩ | cases h
  | long => cases v <;> first | exact ⟨rfl, rfl⟩ | cases h
  | object n => cases v <;> first | exact ⟨rfl, rfl⟩ | cases h
  | array t => cases v <;> first | exact ⟨rfl, rfl⟩ | cases h
  | boolean =>
    cases v with
    | int x =>
      have hx : x &&& 1 = x := by
        by_cases hx : x &&& 1 = x
        · exact hx
        · simp only [xput, xkd, if_neg hx] at h; cases h
      refine ⟨congrArg Value.int hx, ?_⟩
      rcases xbit hx with rfl | rfl <;> rfl
    | _ => cases h
  | _ => cases h
theorem xput_same {m m' : XM} {kd k jj : Nat} {v : Value} (h : xput m kd k jj v = some m') : xSame k m m' ∧ ∀ j, xval m' kd k j = if j = jj then v else xval m kd k j := by
  unfold xput at h
  split at h
  · split at h <;> cases h; exact ⟨xSame_I _ _ _ _, xval_I (by decide) (by decide)⟩
  · split at h <;> cases h; exact ⟨xSame_L _ _ _ _, xval_L⟩
  · split at h
    · cases h; exact ⟨xSame_R _ _ _ _, xval_R⟩
    · cases h; exact ⟨xSame_R _ _ _ _, xval_R⟩
    · cases h
  · split at h
    · split at h
      · cases h; exact ⟨xSame_I _ _ _ _, xval_I (by decide) (by decide)⟩
      · cases h
    · cases h
  · cases h
theorem xput_other {m m' : XM} {kd kd' k jj j : Nat} {v : Value} (h : xput m kd k jj v = some m') (hj : j ≠ jj) : xval m' kd' k j = xval m kd' k j := by
  have hu : ∀ {α : Type} {f : Nat → Nat → α} {x : α}, xu f k jj x k j = f k j := by
    intro α f x; rw [xu_at, if_neg hj]
  unfold xput at h
  split at h
  · split at h <;> cases h
    unfold xval; split <;> first | rfl | exact congrArg Value.int hu
  · split at h <;> cases h
    unfold xval; split <;> first | rfl | exact congrArg Value.long hu
  · split at h
    · cases h
      unfold xval; split <;> first | rfl | exact congrArg va_rf hu
    · cases h
      unfold xval; split <;> first | rfl | exact congrArg va_rf hu
    · cases h
  · split at h
    · split at h
      · cases h
        unfold xval; split <;> first | rfl | exact congrArg Value.int hu
      · cases h
    · cases h
  · cases h
theorem xis_130 {t : Nat} (h : t < 22 ∨ xoks t) (h2 : 110 ≤ t) : t = 130 := by
  unfold xoks at h; omega
theorem xnold {m : XM} {k : Nat} (ho : ∀ k, k < x0 → (xsh m k).1 ≤ 101) (h : 110 ≤ (xsh m k).1) : x0 ≤ k := by
  by_cases hk : k < x0
  · have := ho k hk; omega
  · omega
section XCA
variable {p : Program} {l : Launch} {e : Env} {R : Room} {s : State} {mm : MethodId} {args : Array Value} {below : List Frame} {meth : Method} {c : Code} {H H0 : Heap} {locs : List Loc} {cells slots : Nat} {Q : State → Prop} {cc : ByteArray} {pc : Nat} {ls : Array Slot} {E : XE} {st st' : List Value} {i : Instr} {m m' : XM} {a b own : Nat}
/-- final fields are written by their own class's constructors alone -/
def xfin (own a k : Nat) (isInit : Bool) : Prop := (xTb a k).2.2.2 = true → (isInit = true ∧ own = a)
theorem xs6_put (hx : p.tables.exec = Jvm.exec) (hb : c.code = cc) (hts : ∀ w ∈ xW, w.before args s = true) (hown : s.vm.findClass (xcn own) = some mm.cls) (hE : xEnv E s) (hR : xRep E m H) (hA : xEad E) (hK : xKn m) (hS : va_S (xA E) H0 H locs) {idx k : Nat} {r : List Value} {v : Value}
    (hk : x0 ≤ k ∧ k < xn m ∧ (xsh m k).1 = a) (ha : xcok a) (ha2 : a < 100) (hf : (own, idx, a, b / 8) ∈ xFL ∨ ((∃ h, (own, idx, a, b / 8, h) ∈ xFN) ∧ (xTb a (b / 8)).2.2.2 = false)) (hfin : (xTb a (b / 8)).2.2.2 = true → meth.name = "<init>" ∧ own = a) (hb2 : b % 8 = xkd (xtyp a (b / 8))) (hb3 : b / 8 < xnf a) (hd : decode cc pc = .ok (.putfield idx, 3))
    (hp : xput m (b % 8) k (b / 8) v = some m')
    (kk : ∀ (H1 : Heap) (locs1 : List Loc), xRep E m' H1 → xKn m' → m'.2.2.2 = m.2.2.2 → va_S (xA E) H0 H1 locs1 → W p l e R s mm args below meth c H1 locs1 cells slots Q (F0 mm (pc + 3) ls r)) : W p l e R s mm args below meth c H locs cells slots Q (F0 mm pc ls (xc E v :: .ref (xad E k) :: r)) := by
  obtain ⟨C, c1, c2, c3, c4, c5, c6, c7⟩ := ha
  have h1 := hR.2.1 k hk.1 hk.2.1
  unfold xcell at h1
  rw [if_pos (by rw [hk.2.2]; exact ha2), hk.2.2] at h1
  obtain ⟨hlen, cell, q1, q2, q3, q4⟩ := h1
  obtain ⟨hS', hfc, kC, hkC, hkind⟩ := hE.1.1 a _ c1
  have hap := va_apart (own := xcn own) hts c3 (xtyp a) c4 c5 hE.1 c1
  obtain ⟨cf, kf, fi, f, hi, hsl⟩ := hS' (b / 8) hb3
  have hst := (u_facts hfc hkC (u_lays hts c3 hb3) hi).1
  have hlay := hts _ (c3 _ (u_in_lay hb3))
  obtain ⟨hs, hv⟩ := xput_same hp
  have hfit : narrow (xtyp a (b / 8)) (xc E v) = xc E v ∧ fits (xtyp a (b / 8)) (xc E v) = true := xput_fit (by rw [← hb2]; exact hp)
  have hsame : s.fieldFound? C (xTb a (b / 8)).2.1 (xTb a (b / 8)).2.2.1 = some (cf, kf, fi, f) := by
    have h9 := hi
    rw [c6 _ hb3] at h9
    exact h9
  have hfin' : ∀ H1 : Heap, H1[xad E k]? = some (cell.setSlot f.slot (xc E v)) → H1.size = H.size → (∀ q, q ≠ xad E k → H1[q]? = H[q]?) → xRep E m' H1 := by
    intro H1 e1 e2 e3
    refine xRep_set hR hA hk.1 hs e2 e3 ?_
    unfold xcell
    rw [show xsh m' = xsh m from congrArg (fun q => q.1) hs.1, if_pos (by rw [hk.2.2]; exact ha2), hk.2.2]
    rw [hsl] at e1
    refine ⟨hlen, t_OB.to (V := updV (fun j => xel E m k j) (b / 8) (xc E v)) ⟨_, e1, q2, q3, t_set q4 hap hb3 (xc E v)⟩ fun j hj => ?_⟩
    unfold updV xel
    rw [show xsh m' = xsh m from congrArg (fun q => q.1) hs.1]
    dsimp only
    split
    · next hjj =>
      subst hjj
      rw [show xkind (xsh m k).1 (b / 8) = b % 8 by rw [hk.2.2]; unfold xkind; rw [if_pos ha2, hb2], hv, if_pos rfl]
    · next hjj => rw [xput_other hp hjj]
  have hKn := xKn_same hs hK
  have hsh : m'.2.2.2 = m.2.2.2 := hs.1
  by_cases hF : (xTb a (b / 8)).2.2.2 = true
  · have hpl : (own, idx, a, b / 8) ∈ xFL := hf.resolve_right fun q => by rw [q.2] at hF; cases hF
    obtain ⟨hin, hoa⟩ := hfin hF
    unfold u_lay at hlay
    rw [if_pos hF] at hlay
    have hcf : mm.cls = cf := by
      obtain ⟨_, _, c', _, _, _, -, -, hf', -, -, -, hown2, -⟩ := Cond.laysFinal_spec hlay
      have e1 : c' = cf := by have := hi.symm.trans hf'; simp at this; exact this.1.symm
      rw [c6 _ hb3, ← c2, ← hoa] at hown2
      rw [← e1]; exact Option.some.inj (hown.symm.trans hown2)
    have h6 := u_fits hfc hkC hkind (Or.inr hlay) hi (c4 _ hb3) hfit.1 hfit.2
    have hw := hts _ (xW_of (x_in xfw xFL_ok hpl) rfl)
    unfold xfw at hw
    refine W.putFinK hx hb hown hw (by rw [c6 _ hb3]; exact hsame) hst hcf hin (by rw [q2]; exact h6) q1 q3 (by rw [hsl]; exact k2_hasslot (q4 _ hb3)) rfl rfl hd fun H1 e1 e2 e3 => ?_
    exact kk H1 _ (hfin' H1 e1 e2 e3) hKn hsh (hS.put e2 e3 (xA_ad hA hk.1))
  · unfold u_lay at hlay
    rw [if_neg hF] at hlay
    have h6 := u_store hfc hkC hkind hlay hi (c4 _ hb3) hfit.1 hfit.2
    rcases hf with hpl | ⟨⟨h, hpl⟩, -⟩
    · have hw := hts _ (xW_of (x_in xfw xFL_ok hpl) rfl)
      unfold xfw at hw
      refine W.putK hx hb (f := f) ⟨hown, hw, ⟨_, _, _, (by rw [c6 _ hb3]; exact hsame)⟩, hst⟩ (by rw [q2]; exact h6) q1 q3 (by rw [hsl]; exact k2_hasslot (q4 _ hb3)) rfl rfl hd fun H1 e1 e2 e3 => ?_
      exact kk H1 _ (hfin' H1 e1 e2 e3) hKn hsh (hS.put e2 e3 (xA_ad hA hk.1))
    · have hw := va_Nw.use (A := args) rfl (hE.2.2.1 _ hpl)
      unfold xfn at hw
      refine va_WputK hx hb (f := f) hown hw (by rw [c6 _ hb3]; exact hsame) hst (by rw [q2]; exact h6) q1 q3 (by rw [hsl]; exact k2_hasslot (q4 _ hb3)) rfl rfl hd fun H1 e1 e2 e3 => ?_
      exact kk H1 _ (hfin' H1 e1 e2 e3) hKn hsh (hS.put e2 e3 (xA_ad hA hk.1))
/-- places of arrays are read -/
def xisld : Instr → Bool
  | .iaload | .laload | .baload | .caload | .aaload | .arraylength => true
  | _ => false
theorem xs6_ld (hx : p.tables.exec = Jvm.exec) (hb : c.code = cc) (hE : xEnv E s) (hR : xRep E m H) (hK : xKn m) (hi : xisld i = true) (h : xs6 i a b st m = some (st', m')) (hd : decode cc pc = .ok (i, xlen i)) (ho : ∀ k, k < x0 → (xsh m k).1 ≤ 101)
    (kk : m' = m → W p l e R s mm args below meth c H locs cells slots Q (F0 mm (pc + xlen i) ls (xcs E st'))) : W p l e R s mm args below meth c H locs cells slots Q (F0 mm pc ls (xcs E st)) := by
  unfold xs6 at h
  split at h
  · cases hi
  · cases hi
  · split at h
    · split at h
      · next hk =>
        cases h
        obtain ⟨cell, g1, g2, g3, g4, g5⟩ := xarr hR hE hK hk.1 (xge hk.2.1 (by decide))
        have hv := g5 _ (xin_ok hk.2.2).2
        rw [hk.2.1] at g2
        refine W.iald hx hb g1 g2 g3 (xin_v2 hk.2.2 g4.1) hv rfl rfl hd ?_
        have hkk := kk rfl
        unfold xel
        rw [hk.2.1]
        exact hkk
      · cases h
    · cases h
  · split at h
    · split at h
      · next hk =>
        cases h
        obtain ⟨cell, g1, g2, g3, g4, g5⟩ := xarr hR hE hK hk.1 (xge hk.2.1 (by decide))
        have hv := g5 _ (xin_ok hk.2.2).2
        rw [hk.2.1] at g2
        refine W.lald hx hb g1 g2 g3 (xin_v2 hk.2.2 g4.1) hv rfl rfl hd ?_
        have hkk := kk rfl
        unfold xel
        rw [hk.2.1]
        exact hkk
      · cases h
    · cases h
  · split at h
    · split at h
      · next hk =>
        cases h
        have h8 := hk.2.1
        rcases h8 with h8 | h8
        · obtain ⟨cell, g1, g2, g3, g4, g5⟩ := xarr hR hE hK hk.1 (xge h8 (by decide))
          have hv := g5 _ (xin_ok hk.2.2).2
          rw [h8] at g2
          refine W.bald hx hb g1 g2 g3 (xin_v2 hk.2.2 g4.1) hv rfl rfl hd ?_
          have hkk := kk rfl
          unfold xel
          rw [h8]
          exact hkk
        · obtain ⟨cell, g1, g2, g3, g4, g5⟩ := xarr hR hE hK hk.1 (xge h8 (by decide))
          have hv := g5 _ (xin_ok hk.2.2).2
          rw [h8] at g2
          refine W.zald hx hb g1 g2 g3 (xin_v2 hk.2.2 g4.1) hv rfl rfl hd ?_
          have hkk := kk rfl
          unfold xel
          rw [h8]
          exact hkk
      · cases h
    · cases h
  · split at h
    · split at h
      · next hk =>
        cases h
        obtain ⟨cell, g1, g2, g3, g4, g5⟩ := xarr hR hE hK hk.1 (xge hk.2.1 (by decide))
        have hv := g5 _ (xin_ok hk.2.2).2
        rw [hk.2.1] at g2
        refine W.cald hx hb g1 g2 g3 (xin_v2 hk.2.2 g4.1) hv rfl rfl hd ?_
        have hkk := kk rfl
        unfold xel
        rw [hk.2.1]
        exact hkk
      · cases h
    · cases h
  · split at h
    · split at h
      · next hk =>
        cases h
        obtain ⟨cell, g1, g2, g3, g4, g5⟩ := xarr hR hE hK hk.1 (Nat.le_trans (by decide) hk.2.1)
        have hv := g5 _ (xin_ok hk.2.2).2
        have h130 : _ = 130 := xis_130 (hK _ (xnold ho hk.2.1) hk.1) hk.2.1
        rw [h130] at g2
        refine W.aald hx hb g1 g2 rfl g3 (xin_v2 hk.2.2 g4.1) hv rfl rfl hd ?_
        have hkk := kk rfl
        unfold xel
        rw [h130]
        exact hkk
      · cases h
    · cases h
  · split at h
    · split at h
      · next hk =>
        cases h
        obtain ⟨cell, g1, g2, g3, g4, g5⟩ := xarr hR hE hK hk.1 hk.2
        exact W.alen hx hb g1 g2 g4.2 rfl rfl hd (kk rfl)
      · cases h
    · cases h
  · cases h
end XCA
