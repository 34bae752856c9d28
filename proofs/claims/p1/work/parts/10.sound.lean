/-! WHAT THE ABSTRACT MACHINE SAYS HOLDS OF THE MACHINE: instructions without cells -/
/-- kinds and class numbers; array classes; addresses; the first address that is written; the old cells -/
abbrev XE : Type := va_G × (Nat → ClassId) × (Nat → Nat) × Nat × (Nat → Nat × Cell)
abbrev xad (E : XE) : Nat → Nat := E.2.2.1
def xc (E : XE) (v : Value) : Value := match v with | .ref k => .ref (xad E k) | v => v
theorem xc_cat (E : XE) (v : Value) : (xc E v).category = v.category := by cases v <;> rfl
def xcs (E : XE) (st : List Value) : List Value := st.map (xc E)
theorem xcs_cats (E : XE) (st : List Value) : ((xcs E st).map fun v => v.category).sum = xcats st := by
  unfold xcs xcats
  rw [List.map_map]
  congr 1
  exact List.map_congr_left fun v _ => xc_cat E v
def xlv (E : XE) (lv : List (Nat × Value)) : List (Nat × Value) := lv.map fun q => (q.1, xc E q.2)
theorem xlv_get {E : XE} {ls : Array Slot} {nL : Nat} : ∀ {lv : List (Nat × Value)} {i : Nat} {v : Value}, lv_has ls nL (xlv E lv) → xlk lv i = some v → ls[i]? = some (.val (xc E v)) := by
  intro lv
  induction lv with
  | nil => intro i v _ h; cases h
  | cons q r ih =>
    intro i v hl h
    unfold xlk at h
    split at h
    · next hq =>
      cases h
      exact hq ▸ hl.2.2 (q.1, xc E q.2) (by unfold xlv; exact List.mem_cons_self)
    · exact ih ⟨hl.1, hl.2.1, fun z hz => hl.2.2 z (by unfold xlv at hz ⊢; exact List.mem_cons_of_mem _ hz)⟩ h
theorem xlv_filter (E : XE) (f g : Nat × Value → Bool) (hfg : ∀ q, f (q.1, xc E q.2) = g q) (lv : List (Nat × Value)) : (xlv E lv).filter f = xlv E (lv.filter g) := by
  unfold xlv
  rw [List.filter_map]
  congr 1
  exact List.filter_congr fun q _ => hfg q
theorem xlv_st1 (E : XE) (lv : List (Nat × Value)) (i : Nat) (v : Value) : (i, xc E v) :: (xlv E lv).filter (fun q => !(q.1 == i) && !(q.1 + 1 == i && q.2.category == 2)) = xlv E (xst1 lv i v) := by
  unfold xst1
  rw [xlv_filter E _ (fun q => !(q.1 == i) && !(q.1 + 1 == i && q.2.category == 2)) (fun q => by simp only [xc_cat])]
  rfl
theorem xlv_st2 (E : XE) (lv : List (Nat × Value)) (i : Nat) (v : Value) : (i, xc E v) :: (xlv E lv).filter (fun q => !(q.1 == i) && (!(q.1 == i + 1) && !(q.1 + 1 == i && q.2.category == 2))) = xlv E (xst2 lv i v) := by
  unfold xst2
  rw [xlv_filter E _ (fun q => !(q.1 == i) && (!(q.1 == i + 1) && !(q.1 + 1 == i && q.2.category == 2))) (fun q => by simp only [xc_cat])]
  rfl
section XSA
variable {p : Program} {l : Launch} {e : Env} {R : Room} {s : State} {mm : MethodId} {args : Array Value} {below : List Frame} {meth : Method} {c : Code} {H : Heap} {locs : List Loc} {cells slots : Nat} {Q : State → Prop} {cc : ByteArray} {pc : Nat} {ls : Array Slot} {E : XE} {lv : List (Nat × Value)} {st st' : List Value} {i : Instr} {nL : Nat}
theorem xs1_ok (hx : p.tables.exec = Jvm.exec) (hb : c.code = cc) (hl : lv_has ls nL (xlv E lv)) (h : xs1 i lv st = some st') (hd : decode cc pc = .ok (i, xlen i))
    (k : W p l e R s mm args below meth c H locs cells slots Q (F0 mm (pc + xlen i) ls (xcs E st'))) : W p l e R s mm args below meth c H locs cells slots Q (F0 mm pc ls (xcs E st)) := by
  unfold xs1 at h
  split at h
  · cases h; exact lv_iconst hx hb hd rfl k
  · cases h; exact lv_bipush hx hb hd rfl k
  · cases h; exact lv_sipush hx hb hd rfl k
  · cases h; exact lv_lconst hx hb hd rfl k
  · split at h
    · next e => cases h; exact lv_iload_n hx hb hd rfl (xlv_get hl e) k
    · cases h
  · split at h
    · next e => cases h; exact lv_iload hx hb hd (xlv_get hl e) k
    · cases h
  · split at h
    · next e => cases h; exact lv_lload_n hx hb hd rfl (xlv_get hl e) k
    · cases h
  · split at h
    · next e => cases h; exact lv_lload hx hb hd (xlv_get hl e) k
    · cases h
  · split at h
    · next e => cases h; exact lv_aload_n hx hb hd rfl (xlv_get hl e) k
    · cases h
  · split at h
    · next e => cases h; exact lv_aload hx hb hd (xlv_get hl e) k
    · cases h
  · cases h
theorem xs2_ok (hx : p.tables.exec = Jvm.exec) (hb : c.code = cc) (h : xs2 i st = some st') (hd : decode cc pc = .ok (i, xlen i))
    (k : W p l e R s mm args below meth c H locs cells slots Q (F0 mm (pc + xlen i) ls (xcs E st'))) : W p l e R s mm args below meth c H locs cells slots Q (F0 mm pc ls (xcs E st)) := by
  unfold xs2 at h
  split at h
  · split at h <;> cases h; exact lv_iadd hx hb hd k
  · split at h <;> cases h; exact lv_isub hx hb hd k
  · split at h <;> cases h; exact lv_imul hx hb hd k
  · split at h <;> cases h; exact lv_iand hx hb hd k
  · split at h <;> cases h; exact lv_ior hx hb hd k
  · split at h <;> cases h; exact lv_ixor hx hb hd k
  · split at h
    · split at h
      · cases h
      · next hy => cases h; exact lv_idiv hx hb hd hy k
    · cases h
  · split at h
    · split at h
      · cases h
      · next hy => cases h; exact lv_irem hx hb hd hy k
    · cases h
  · split at h <;> cases h; exact lv_ineg hx hb hd k
  · split at h <;> cases h; exact lv_ishl hx hb hd k
  · split at h <;> cases h; exact lv_ishr hx hb hd k
  · split at h <;> cases h; exact lv_iushr hx hb hd rfl k
  · cases h
theorem xs3_ok (hx : p.tables.exec = Jvm.exec) (hb : c.code = cc) (h : xs3 i st = some st') (hd : decode cc pc = .ok (i, xlen i))
    (k : W p l e R s mm args below meth c H locs cells slots Q (F0 mm (pc + xlen i) ls (xcs E st'))) : W p l e R s mm args below meth c H locs cells slots Q (F0 mm pc ls (xcs E st)) := by
  unfold xs3 at h
  split at h
  · split at h <;> cases h; exact lv_ladd hx hb hd k
  · split at h <;> cases h; exact lv_lsub hx hb hd k
  · split at h <;> cases h; exact lv_lmul hx hb hd k
  · split at h <;> cases h; exact lv_land hx hb hd k
  · split at h <;> cases h; exact lv_lor hx hb hd k
  · split at h
    · split at h
      · cases h
      · next hy => cases h; exact lv_ldiv hx hb hd hy k
    · cases h
  · split at h
    · split at h
      · cases h
      · next hy => cases h; exact lv_lrem hx hb hd hy k
    · cases h
  · split at h <;> cases h; exact lv_lneg hx hb hd k
  · split at h <;> cases h; exact lv_lshl hx hb hd rfl k
  · split at h <;> cases h; exact lv_lshr hx hb hd rfl k
  · split at h <;> cases h; exact lv_lushr hx hb hd rfl k
  · split at h <;> cases h; exact W.lcmp hx hb hd k
  · split at h <;> cases h; exact lv_i2l hx hb hd rfl k
  · split at h <;> cases h; exact lv_l2i hx hb hd rfl k
  · split at h <;> cases h; exact lv_i2b hx hb hd rfl k
  · split at h <;> cases h; exact lv_i2c hx hb hd rfl k
  · cases h
theorem xs4_ok (hx : p.tables.exec = Jvm.exec) (hb : c.code = cc) (h : xs4 i st = some st') (hd : decode cc pc = .ok (i, xlen i))
    (k : W p l e R s mm args below meth c H locs cells slots Q (F0 mm (pc + xlen i) ls (xcs E st'))) : W p l e R s mm args below meth c H locs cells slots Q (F0 mm pc ls (xcs E st)) := by
  unfold xs4 at h
  split at h
  · split at h
    · split at h
      · next hv => cases h; exact lv_dup hx hb hd ((xc_cat E _).trans hv) k
      · cases h
    · cases h
  · split at h
    · split at h
      · next hv => cases h; exact lv_pop hx hb hd ((xc_cat E _).trans hv) k
      · cases h
    · cases h
  · split at h
    · split at h
      · next hv => cases h; exact lv_pop2_2 hx hb hd ((xc_cat E _).trans hv) k
      · cases h
    · cases h
  · split at h
    · split at h
      · next hv => cases h; exact lv_dup2_2 hx hb hd ((xc_cat E _).trans hv) k
      · next hv =>
        split at h
        · next hu => cases h; exact lv_dup2_11 hx hb hd ((xc_cat E _).trans ((lv_cat _).resolve_right hv)) ((xc_cat E _).trans hu) k
        · cases h
    · cases h
  · cases h
theorem xs5_ok {lv' : List (Nat × Value)} (hx : p.tables.exec = Jvm.exec) (hb : c.code = cc) (hl : lv_has ls nL (xlv E lv)) (h : xs5 nL i lv st = some (lv', st')) (hd : decode cc pc = .ok (i, xlen i))
    (k : ∀ ls' : Array Slot, lv_has ls' nL (xlv E lv') → W p l e R s mm args below meth c H locs cells slots Q (F0 mm (pc + xlen i) ls' (xcs E st'))) : W p l e R s mm args below meth c H locs cells slots Q (F0 mm pc ls (xcs E st)) := by
  unfold xs5 at h
  split at h
  · split at h
    · split at h
      · next hn => cases h; exact lv_istore_n hx hb hd rfl hl hn (xlv_st1 E lv _ (.int _)) k
      · cases h
    · cases h
  · split at h
    · split at h
      · next hn => cases h; exact lv_istore hx hb hd hl hn (xlv_st1 E lv _ (.int _)) k
      · cases h
    · cases h
  · split at h
    · split at h
      · next hn => cases h; exact lv_lstore_n hx hb hd rfl hl hn (xlv_st2 E lv _ (.long _)) k
      · cases h
    · cases h
  · split at h
    · split at h
      · next hn => cases h; exact lv_lstore hx hb hd hl hn (xlv_st2 E lv _ (.long _)) k
      · cases h
    · cases h
  · split at h
    · split at h
      · next hn => cases h; exact lv_astore_n hx hb hd rfl hl hn (xlv_st1 E lv _ (.ref _)) k
      · cases h
    · cases h
  · split at h
    · split at h
      · next hn => cases h; exact lv_astore hx hb hd hl hn (xlv_st1 E lv _ (.ref _)) k
      · cases h
    · cases h
  · split at h
    · next v e =>
      split at h
      · next hn =>
        cases h
        have h1 := xlv_get hl e
        have hl2 : lv_has ls nL ((_, Value.int v) :: xlv E lv) := ⟨hl.1, hl.2.1, fun q hq => by
          rcases List.mem_cons.mp hq with h9 | h9
          · rw [h9]; exact h1
          · exact hl.2.2 q h9⟩
        refine lv_iinc hx hb hd hl2 (k := 0) rfl rfl hn rfl (fun ls' h' => k ls' ?_)
        rw [← xlv_st1 E lv _ (.int _)]
        refine ⟨h'.1, h'.2.1, fun q hq => h'.2.2 q ?_⟩
        rcases List.mem_cons.mp hq with h9 | h9
        · rw [h9]; exact List.mem_cons_self
        · refine List.mem_cons_of_mem _ ?_
          rw [List.mem_filter] at h9 ⊢
          exact ⟨List.mem_cons_of_mem _ h9.1, h9.2⟩
      · cases h
    · cases h
  · cases h
theorem xbr_ok {o : Option Nat} {len : Nat} (hx : p.tables.exec = Jvm.exec) (hb : c.code = cc) (h : xbr pc i st = some (o, st')) (hd : decode cc pc = .ok (i, len)) (hj : xjok pc i = true) (hlen : xisw i = true ∨ len = xlen i)
    (kt : ∀ t, o = some t → W p l e R s mm args below meth c H locs cells slots Q (F0 mm t ls (xcs E st')))
    (kf : o = none → W p l e R s mm args below meth c H locs cells slots Q (F0 mm (pc + len) ls (xcs E st'))) : W p l e R s mm args below meth c H locs cells slots Q (F0 mm pc ls (xcs E st)) := by
  have hz : ∀ z : Int, 0 ≤ z → z = (z.toNat : Int) := fun z hz => by omega
  unfold xbr at h
  split at h
  · cases h
    obtain h9 | rfl := hlen
    · cases h9
    · exact lv_goto hx hb hd (hz _ (of_decide_eq_true hj)) (kt _ rfl)
  · rename_i cnd off
    split at h
    · cases h
      obtain h9 | rfl := hlen
      · cases h9
      · have ht := hz _ (of_decide_eq_true hj)
        cases cnd
        · exact lv_if_eq hx hb hd ht (fun h8 => kt _ (by simp [xcond, xif, h8])) (fun h8 => kf (by simp [xcond, xif, h8]))
        · exact lv_if_ne hx hb hd ht (fun h8 => kt _ (by simp [xcond, xif, h8])) (fun h8 => kf (by simp [xcond, xif, h8]))
        · exact lv_if_lt hx hb hd ht (fun h8 => kt _ (by simp only [xcond, xif, h8, decide_true])) (fun h8 => kf (by simp only [xcond, xif, h8, decide_false]))
        · exact lv_if_ge hx hb hd ht (fun h8 => kt _ (by simp only [xcond, xif, h8, decide_true])) (fun h8 => kf (by simp only [xcond, xif, h8, decide_false]))
        · exact lv_if_gt hx hb hd ht (fun h8 => kt _ (by simp only [xcond, xif, h8, decide_true])) (fun h8 => kf (by simp only [xcond, xif, h8, decide_false]))
        · exact lv_if_le hx hb hd ht (fun h8 => kt _ (by simp only [xcond, xif, h8, decide_true])) (fun h8 => kf (by simp only [xcond, xif, h8, decide_false]))
    · cases h
  · rename_i cnd off
    split at h
    · cases h
      obtain h9 | rfl := hlen
      · cases h9
      · have ht := hz _ (of_decide_eq_true hj)
        cases cnd
        · exact lv_icmp_eq hx hb hd ht (fun h8 => kt _ (by simp [xcond, xif, h8])) (fun h8 => kf (by simp [xcond, xif, h8]))
        · exact lv_icmp_ne hx hb hd ht (fun h8 => kt _ (by simp [xcond, xif, h8])) (fun h8 => kf (by simp [xcond, xif, h8]))
        · exact lv_icmp_lt hx hb hd ht (fun h8 => kt _ (by simp only [xcond, xif, h8, decide_true])) (fun h8 => kf (by simp only [xcond, xif, h8, decide_false]))
        · exact lv_icmp_ge hx hb hd ht (fun h8 => kt _ (by simp only [xcond, xif, h8, decide_true])) (fun h8 => kf (by simp only [xcond, xif, h8, decide_false]))
        · exact lv_icmp_gt hx hb hd ht (fun h8 => kt _ (by simp only [xcond, xif, h8, decide_true])) (fun h8 => kf (by simp only [xcond, xif, h8, decide_false]))
        · exact lv_icmp_le hx hb hd ht (fun h8 => kt _ (by simp only [xcond, xif, h8, decide_true])) (fun h8 => kf (by simp only [xcond, xif, h8, decide_false]))
    · cases h
  · split at h
    · cases h
      obtain h9 | rfl := hlen
      · cases h9
      · exact lv_ifnull hx hb hd (kf rfl)
    · cases h
      obtain h9 | rfl := hlen
      · cases h9
      · exact lv_ifnullN hx hb hd (hz _ (of_decide_eq_true hj)) (kt _ rfl)
    · cases h
  · split at h
    · cases h
      obtain h9 | rfl := hlen
      · cases h9
      · exact lv_ifnonnull hx hb hd (hz _ (of_decide_eq_true hj)) (kt _ rfl)
    · cases h
      obtain h9 | rfl := hlen
      · cases h9
      · exact lv_ifnonnullN hx hb hd (kf rfl)
    · cases h
  · split at h
    · split at h
      · next hout =>
        split at h
        · next hp => cases h; exact lv_tableOut hx hb hd hout (hz _ hp) (kt _ rfl)
        · cases h
      · next hout =>
        split at h
        · next ho =>
          split at h
          · next hp => cases h; exact lv_tableIn hx hb hd (fun q => hout (Or.inl q)) (fun q => hout (Or.inr q)) ho (hz _ hp) (kt _ rfl)
          · cases h
        · cases h
    · cases h
  · split at h
    · split at h
      · next hp => cases h; exact lv_lookup hx hb hd hj rfl (hz _ hp) (kt _ rfl)
      · cases h
    · cases h
  · cases h
end XSA
