/-! a run that doesn't see the script is the same beside any script -/
def xsc (L : Nat) (xs : Nat → Int32) (m : XM) : XM := (fun k j => if k = 0 then xs j else m.1 k j, m.2.1, m.2.2.1, (fun k => if k = 0 then (100, L) else xsh m k), xn m, xw m)
theorem xsc_sh {L : Nat} {xs : Nat → Int32} {m : XM} {k : Nat} (h : k ≠ 0) : xsh (xsc L xs m) k = xsh m k := if_neg h
theorem xsc_i {L : Nat} {xs : Nat → Int32} {m : XM} {k : Nat} (h : k ≠ 0) (j : Nat) : (xsc L xs m).1 k j = m.1 k j := if_neg h
theorem xsc_val {L : Nat} {xs : Nat → Int32} {m : XM} {k : Nat} (h : k ≠ 0) (kd j : Nat) : xval (xsc L xs m) kd k j = xval m kd k j := by
  unfold xval
  split
  · rfl
  · rfl
  · rw [xsc_i h]
theorem xsc_I {L : Nat} {xs : Nat → Int32} {m : XM} {k : Nat} (h : k ≠ 0) (j : Nat) (v : Int32) : xwI (xsc L xs m) k j v = xsc L xs (xwI m k j v) := by
  unfold xwI xsc
  refine Prod.ext ?_ rfl
  funext a b
  show xu (fun k j => if k = 0 then xs j else m.1 k j) k j v a b = if a = 0 then xs b else xu m.1 k j v a b
  unfold xu
  by_cases ha : a = k
  · subst ha; rw [if_pos rfl, if_neg h, if_pos rfl]; show (if b = j then v else if a = 0 then xs b else m.1 a b) = _; rw [if_neg h]
  · rw [if_neg ha, if_neg ha]
theorem xsc_new {L : Nat} {xs : Nat → Int32} {m : XM} (h : xn m ≠ 0) (t len : Nat) : xnew (xsc L xs m) t len = xsc L xs (xnew m t len) := by
  unfold xnew
  refine Prod.ext ?_ (Prod.ext rfl (Prod.ext rfl (Prod.ext ?_ rfl)))
  · funext a b
    show xz (fun k j => if k = 0 then xs j else m.1 k j) (xn m) 0 a b = if a = 0 then xs b else xz m.1 (xn m) 0 a b
    unfold xz
    by_cases ha : a = xn m
    · subst ha; rw [if_pos rfl, if_neg h, if_pos rfl]
    · rw [if_neg ha, if_neg ha]
  · funext a
    show (if a = xn m then (t, len) else if a = 0 then (100, L) else xsh m a) = if a = 0 then (100, L) else if a = xn m then (t, len) else xsh m a
    by_cases ha : a = xn m
    · subst ha; rw [if_pos rfl, if_neg h, if_pos rfl]
    · rw [if_neg ha, if_neg ha]
/-- which group an instruction is of -/
def xgrp : Instr → Nat
  | .iconst _ | .bipush _ | .sipush _ | .lconst _ | .iload_n _ | .iload _ | .lload_n _ | .lload _ | .aload_n _ | .aload _ => 1
  | .iadd | .isub | .imul | .iand | .ior | .ixor | .idiv | .irem | .ineg | .ishl | .ishr | .iushr => 2
  | .ladd | .lsub | .lmul | .land | .lor | .ldiv | .lrem | .lneg | .lshl | .lshr | .lushr | .lcmp | .i2l | .l2i | .i2b | .i2c => 3
  | .dup | .pop | .pop2 | .dup2 => 4
  | .istore_n _ | .istore _ | .lstore_n _ | .lstore _ | .astore_n _ | .astore _ | .iinc .. => 5
  | .getfield _ | .putfield _ | .iaload | .laload | .baload | .caload | .aaload | .arraylength => 6
  | .iastore | .lastore | .bastore | .castore | .aastore => 7
  | .newarray _ | .anewarray _ | .new _ | .invokespecial _ => 8
  | .ldc _ | .ldc_w _ | .ldc2_w _ => 9
  | .invokestatic _ => 10
  | .getstatic _ => 11
  | .invokevirtual _ => 12
  | _ => 0
theorem xs1_g {i : Instr} {lv : List (Nat × Value)} {st : List Value} {q : List Value} (h : xs1 i lv st = some q) : xgrp i = 1 := by
  unfold xs1 at h
  split at h
  all_goals first | rfl | cases h
theorem xs2_g {i : Instr} {st : List Value} {q : List Value} (h : xs2 i st = some q) : xgrp i = 2 := by
  unfold xs2 at h
  split at h
  all_goals first | rfl | cases h
theorem xs3_g {i : Instr} {st : List Value} {q : List Value} (h : xs3 i st = some q) : xgrp i = 3 := by
  unfold xs3 at h
  split at h
  all_goals first | rfl | cases h
theorem xs4_g {i : Instr} {st : List Value} {q : List Value} (h : xs4 i st = some q) : xgrp i = 4 := by
  unfold xs4 at h
  split at h
  all_goals first | rfl | cases h
theorem xs5_g {nL : Nat} {i : Instr} {lv : List (Nat × Value)} {st : List Value} {q : List (Nat × Value) × List Value} (h : xs5 nL i lv st = some q) : xgrp i = 5 := by
  unfold xs5 at h
  split at h
  all_goals first | rfl | cases h
theorem xs6_g {i : Instr} {a b : Nat} {st : List Value} {m : XM} {q : List Value × XM} (h : xs6 i a b st m = some q) : xgrp i = 6 := by
  unfold xs6 at h
  split at h
  all_goals first | rfl | cases h
theorem xs7_g {i : Instr} {st : List Value} {m : XM} {q : List Value × XM} (h : xs7 i st m = some q) : xgrp i = 7 := by
  unfold xs7 at h
  split at h
  all_goals first | rfl | cases h
theorem xs8_g {i : Instr} {a b : Nat} {st : List Value} {m : XM} {q : List Value × XM} (h : xs8 i a b st m = some q) : xgrp i = 8 := by
  unfold xs8 at h
  split at h
  all_goals first | rfl | cases h
theorem xs9_g {i : Instr} {a : Nat} {c : Int} {st : List Value} {q : List Value} (h : xs9 i a c st = some q) : xgrp i = 9 := by
  unfold xs9 at h
  split at h
  all_goals first | rfl | cases h
theorem xnone {α : Type} {o : Option α} (h : ∀ q, o = some q → False) : o = none := by
  cases o with
  | none => rfl
  | some q => exact (h q rfl).elim
theorem xs10_g {i : Instr} {a b : Nat} {st : List Value} {q : List Value} (h : xs10 i a b st = some q) : xgrp i = 10 ∧ a = 999 := by
  unfold xs10 at h
  split at h
  · split at h
    · next ha => exact ⟨rfl, ha⟩
    · cases h
  · cases h
theorem xs11_g {i : Instr} {a : Nat} {st : List Value} {q : List Value} (h : xs11 i a st = some q) : xgrp i = 11 := by
  unfold xs11 at h
  split at h
  all_goals first | rfl | cases h
theorem xs12_g {i : Instr} {a b : Nat} {st : List Value} {m : XM} {q : List Value × XM} (h : xs12 i a b st m = some q) : xgrp i = 10 ∧ a = 999 := by
  unfold xs12 at h
  split at h
  · split at h
    · next ha => exact ⟨rfl, ha.1⟩
    · cases h
  · cases h
theorem xs13_g {i : Instr} {a b : Nat} {st : List Value} {q : List Value} (h : xs13 i a b st = some q) : xgrp i = 9 ∨ xgrp i = 12 := by
  unfold xs13 at h
  split at h
  · exact Or.inl rfl
  · exact Or.inl rfl
  · exact Or.inr rfl
  · cases h
theorem xs13_ne {i : Instr} {a b n : Nat} {st : List Value} {q : List Value} (h : xs13 i a b st = some q) (h1 : xgrp i = n) (h2 : n ≠ 9) (h3 : n ≠ 12) : False := by
  rcases xs13_g h with e | e
  · exact h2 (h1.symm.trans e)
  · exact h3 (h1.symm.trans e)
theorem xsim_13 {w : XRow} {pc : Nat} {c : Int} {i : Instr} {a b : Nat} {st : List Value} {lv : List (Nat × Value)} {m : XM} {q : List Value} (h : xs13 i a b st = some q) : xsim w (pc, i, a, b, c) lv st m = some (lv, q, m) := by
  have h0 := h
  unfold xs13 at h
  split at h
  · split at h
    · next ha => obtain ⟨rfl, -⟩ := ha; show (match xs13 _ _ _ _ with | some q => some (lv, q, m) | none => none) = _; rw [h0]
    · cases h
  · split at h
    · next ha => obtain ⟨rfl, -⟩ := ha; show (match xs13 _ _ _ _ with | some q => some (lv, q, m) | none => none) = _; rw [h0]
    · cases h
  · show (match xs13 _ _ _ _ with | some q => some (lv, q, m) | none => none) = _
    rw [h0]
  · cases h
theorem xs12_10 {i : Instr} {a b : Nat} {st st0 : List Value} {m : XM} {q : List Value × XM} (h : xs12 i a b st m = some q) : xs10 i a b st0 = none := by
  unfold xs12 at h
  split at h
  · split at h
    · next ha => obtain ⟨rfl, rfl⟩ := ha; rfl
    · cases h
  · cases h
section XHD
variable {L : Nat} {xs : Nat → Int32} {m m1 : XM} {st st' : List Value} {i : Instr} {a b : Nat}
theorem xne0 {k : Nat} (h : x0 ≤ k) : k ≠ 0 := fun q => by subst q; exact absurd h (by decide)
theorem xne0t {k t : Nat} (hs : xsh m 0 = (0, 0)) (h : (xsh m k).1 = t) (ht : 0 < t) : k ≠ 0 := fun q => by subst q; rw [hs] at h; omega
theorem xs6_sc (hs : xsh m 0 = (0, 0)) (h : xs6 i a b st m = some (st', m1)) : xs6 i a b st (xsc L xs m) = some (st', xsc L xs m1) ∧ m1.2.2.2 = m.2.2.2 := by
  refine ⟨?_, xs6_m h⟩
  unfold xs6 at h ⊢
  split at h
  · split at h
    · split at h
      · next hk =>
        cases h
        have h0 := xne0 hk.1
        show (if _ then _ else _) = _
        rw [if_pos ⟨hk.1, hk.2.1, by rw [xsc_sh h0]; exact hk.2.2⟩, xsc_val h0]
      · cases h
    · cases h
  · split at h
    · split at h
      · next hk =>
        split at h
        · next hp =>
          cases h
          have h0 := xne0 hk.1
          show (if _ then _ else _) = _
          rw [if_pos ⟨hk.1, hk.2.1, by rw [xsc_sh h0]; exact hk.2.2⟩]
          unfold xput at hp ⊢
          split at hp
          · split at hp <;> cases hp; rw [← xsc_I h0]
          · split at hp <;> cases hp; rfl
          · split at hp
            · cases hp; rfl
            · cases hp; rfl
            · cases hp
          · split at hp
            · split at hp
              · next hb => cases hp; rw [if_pos hb, ← xsc_I h0]
              · cases hp
            · cases hp
          · cases hp
        · cases h
      · cases h
    · cases h
  · split at h
    · split at h
      · next hk =>
        cases h
        have h0 := xne0t hs hk.2.1 (by decide)
        show (if _ then _ else _) = _
        rw [xsc_sh h0, if_pos ⟨hk.1, hk.2.1, hk.2.2⟩, xsc_i h0]
      · cases h
    · cases h
  · split at h
    · split at h
      · next hk =>
        cases h
        have h0 := xne0t hs hk.2.1 (by decide)
        show (if _ then _ else _) = _
        rw [xsc_sh h0, if_pos ⟨hk.1, hk.2.1, hk.2.2⟩]
        rfl
      · cases h
    · cases h
  · split at h
    · split at h
      · next hk =>
        cases h
        have h0 : _ ≠ 0 := hk.2.1.elim (fun q => xne0t hs q (by decide)) (fun q => xne0t hs q (by decide))
        show (if _ then _ else _) = _
        rw [xsc_sh h0, if_pos ⟨hk.1, hk.2.1, hk.2.2⟩, xsc_i h0]
      · cases h
    · cases h
  · split at h
    · split at h
      · next hk =>
        cases h
        have h0 := xne0t hs hk.2.1 (by decide)
        show (if _ then _ else _) = _
        rw [xsc_sh h0, if_pos ⟨hk.1, hk.2.1, hk.2.2⟩, xsc_i h0]
      · cases h
    · cases h
  · split at h
    · split at h
      · next hk =>
        cases h
        have h0 := xne0t hs rfl (Nat.lt_of_lt_of_le (by decide) hk.2.1)
        show (if _ then _ else _) = _
        rw [xsc_sh h0, if_pos ⟨hk.1, hk.2.1, hk.2.2⟩]
        rfl
      · cases h
    · cases h
  · split at h
    · split at h
      · next hk =>
        cases h
        have h0 := xne0t hs rfl (Nat.lt_of_lt_of_le (by decide) hk.2)
        show (if _ then _ else _) = _
        rw [xsc_sh h0, if_pos ⟨hk.1, hk.2⟩]
      · cases h
    · cases h
  · cases h
theorem xs7_sc (h : xs7 i st m = some (st', m1)) : xs7 i st (xsc L xs m) = some (st', xsc L xs m1) ∧ m1.2.2.2 = m.2.2.2 := by
  refine ⟨?_, xs7_m h⟩
  unfold xs7 at h ⊢
  split at h
  · split at h
    · split at h
      · next hk =>
        cases h
        have h0 := xne0 hk.1
        show (if _ then _ else _) = _
        rw [xsc_sh h0, if_pos ⟨hk.1, hk.2.1, hk.2.2⟩, ← xsc_I h0]
      · cases h
    · cases h
  · split at h
    · split at h
      · next hk =>
        cases h
        have h0 := xne0 hk.1
        show (if _ then _ else _) = _
        rw [xsc_sh h0, if_pos ⟨hk.1, hk.2.1, hk.2.2⟩]
        rfl
      · cases h
    · cases h
  · split at h
    · split at h
      · next hk =>
        have h0 := xne0 hk.1
        show (if _ then _ else _) = _
        rw [xsc_sh h0, if_pos ⟨hk.1, hk.2.1, hk.2.2⟩]
        split at h
        · next h2 => cases h; rw [if_pos h2, ← xsc_I h0]
        · next h2 =>
          rw [if_neg h2]
          split at h
          · next h3 => cases h; rw [if_pos h3, ← xsc_I h0]
          · cases h
      · cases h
    · cases h
  · split at h
    · split at h
      · next hk =>
        cases h
        have h0 := xne0 hk.1
        show (if _ then _ else _) = _
        rw [xsc_sh h0, if_pos ⟨hk.1, hk.2.1, hk.2.2⟩, ← xsc_I h0]
      · cases h
    · cases h
  · split at h
    · split at h
      · next hk =>
        cases h
        have h0 := xne0 hk.1
        have h1 := xne0 hk.2.2.1
        show (if _ then _ else _) = _
        rw [xsc_sh h0, xsc_sh h1, if_pos ⟨hk.1, hk.2.1, hk.2.2⟩]
        rfl
      · cases h
    · cases h
  · cases h
theorem xs8_sc (hn : x0 ≤ xn m) (h : xs8 i a b st m = some (st', m1)) : xs8 i a b st (xsc L xs m) = some (st', xsc L xs m1) ∧ (xsh m1 0 = xsh m 0 ∧ x0 ≤ xn m1) := by
  have h0 := xne0 hn
  have hw : ∀ t len, xsh (xnew m t len) 0 = xsh m 0 ∧ x0 ≤ xn (xnew m t len) := fun t len => ⟨if_neg (Ne.symm h0), Nat.le_succ_of_le hn⟩
  unfold xs8 at h ⊢
  split at h
  · split at h
    · split at h
      · cases h
      · next h1 =>
        split at h
        · next h2 =>
          cases h
          refine ⟨?_, hw _ _⟩
          show (if _ then _ else _) = _
          rw [if_neg h1, if_pos h2, xsc_new h0]
          rfl
        · cases h
    · cases h
  · split at h
    · split at h
      · cases h
      · next h1 =>
        split at h
        · next h2 =>
          cases h
          refine ⟨?_, hw _ _⟩
          show (if _ then _ else _) = _
          rw [if_neg h1, if_pos h2, xsc_new h0]
          rfl
        · cases h
    · cases h
  · cases h
    refine ⟨?_, hw _ _⟩
    rw [xsc_new h0]
    rfl
  · split at h
    · split at h
      · next h1 =>
        cases h
        exact ⟨if_pos h1, rfl, hn⟩
      · cases h
    · cases h
  · cases h
theorem xcpI_sc {ks kd sp dp n : Nat} (h1 : ks ≠ 0) (h2 : kd ≠ 0) : xcpI (xsc L xs m) ks kd sp dp n = xsc L xs (xcpI m ks kd sp dp n) := by
  refine Prod.ext ?_ rfl
  funext a j
  show xcpF (fun k j => if k = 0 then xs j else m.1 k j) ks kd sp dp n a j = if a = 0 then xs j else xcpF m.1 ks kd sp dp n a j
  unfold xcpF
  by_cases ha : a = kd
  · subst ha
    rw [if_pos rfl, if_neg h2, if_pos rfl]
    unfold va_cpy
    simp only [if_neg h1, if_neg h2]
  · rw [if_neg ha, if_neg ha]
theorem xs12_sc (hs : xsh m 0 = (0, 0)) (h : xs12 i a b st m = some (st', m1)) : xs12 i a b st (xsc L xs m) = some (st', xsc L xs m1) ∧ m1.2.2.2 = m.2.2.2 := by
  refine ⟨?_, xs12_m h⟩
  unfold xs12 at h ⊢
  split at h
  · split at h
    · next ha =>
      obtain ⟨rfl, rfl⟩ := ha
      split at h
      · split at h
        · next hc =>
          have h2 := xne0 hc.1.1
          split at h
          · next ht =>
            cases h
            have h1 := xne0t hs ht.1 (by decide)
            show (if _ then (if _ then (if _ then _ else _) else _) else _) = _
            rw [if_pos ⟨rfl, rfl⟩, xsc_sh h1, xsc_sh h2, if_pos ⟨hc.1, hc.2⟩, if_pos ht, xcpI_sc h1 h2]
          · next ht0 =>
            split at h
            · next ht =>
              cases h
              have h1 := xne0t hs ht.1 (by decide)
              show (if _ then (if _ then (if _ then _ else _) else _) else _) = _
              rw [if_pos ⟨rfl, rfl⟩, xsc_sh h1, xsc_sh h2, if_pos ⟨hc.1, hc.2⟩, if_neg ht0, if_pos ht]
              rfl
            · cases h
        · cases h
      · cases h
    · cases h
  · cases h
theorem xsim_sc {w : XRow} {x : XI} {lv lv' : List (Nat × Value)} (hs : xsh m 0 = (0, 0)) (hn : x0 ≤ xn m) (h : xsim w x lv st m = some (lv', st', m1)) : xsim w x lv st (xsc L xs m) = some (lv', st', xsc L xs m1) ∧ xsh m1 0 = (0, 0) ∧ x0 ≤ xn m1 := by
  have heq : ∀ {m2 : XM}, m2.2.2.2 = m.2.2.2 → xsh m2 0 = (0, 0) ∧ x0 ≤ xn m2 := fun {m2} e => ⟨by rw [show xsh m2 = xsh m from congrArg (fun q => q.1) e]; exact hs, by rw [show xn m2 = xn m from congrArg (fun q => q.2.1) e]; exact hn⟩
  unfold xsim at h ⊢
  split at h
  · cases h; exact ⟨rfl, hs, hn⟩
  · split at h
    · next hq =>
      cases h
      obtain ⟨e1, e2⟩ := xs6_sc (L := L) (xs := xs) hs hq
      rw [e1]
      exact ⟨rfl, heq e2⟩
    · split at h
      · next hq =>
        cases h
        rw [xnone (o := xs6 _ _ _ _ _) (fun q hh => by have := (xs6_g hh).symm.trans (xs2_g hq); cases this)]
        exact ⟨rfl, hs, hn⟩
      · split at h
        · next hq =>
          cases h
          rw [xnone (o := xs6 _ _ _ _ _) (fun q hh => by have := (xs6_g hh).symm.trans (xs5_g hq); cases this)]
          exact ⟨rfl, hs, hn⟩
        · split at h
          · next hq =>
            cases h
            obtain ⟨e1, e2⟩ := xs7_sc (L := L) (xs := xs) hq
            rw [xnone (o := xs6 _ _ _ _ _) (fun q hh => by have := (xs6_g hh).symm.trans (xs7_g hq); cases this), e1]
            exact ⟨rfl, heq e2⟩
          · split at h
            · next hq =>
              cases h
              rw [xnone (o := xs6 _ _ _ _ _) (fun q hh => by have := (xs6_g hh).symm.trans (xs3_g hq); cases this), xnone (o := xs7 _ _ _) (fun q hh => by have := (xs7_g hh).symm.trans (xs3_g hq); cases this)]
              exact ⟨rfl, hs, hn⟩
            · split at h
              · next hq =>
                cases h
                rw [xnone (o := xs6 _ _ _ _ _) (fun q hh => by have := (xs6_g hh).symm.trans (xs4_g hq); cases this), xnone (o := xs7 _ _ _) (fun q hh => by have := (xs7_g hh).symm.trans (xs4_g hq); cases this)]
                exact ⟨rfl, hs, hn⟩
              · split at h
                · next hq =>
                  cases h
                  obtain ⟨e1, e2, e3⟩ := xs8_sc (L := L) (xs := xs) hn hq
                  rw [xnone (o := xs6 _ _ _ _ _) (fun q hh => by have := (xs6_g hh).symm.trans (xs8_g hq); cases this), xnone (o := xs7 _ _ _) (fun q hh => by have := (xs7_g hh).symm.trans (xs8_g hq); cases this), e1]
                  exact ⟨rfl, e2.trans hs, e3⟩
                · split at h
                  · next hq =>
                    cases h
                    rw [xnone (o := xs6 _ _ _ _ _) (fun q hh => by have := (xs6_g hh).symm.trans (xs9_g hq); cases this), xnone (o := xs7 _ _ _) (fun q hh => by have := (xs7_g hh).symm.trans (xs9_g hq); cases this), xnone (o := xs8 _ _ _ _ _) (fun q hh => by have := (xs8_g hh).symm.trans (xs9_g hq); cases this)]
                    exact ⟨rfl, hs, hn⟩
                  · split at h
                    · next hq =>
                      cases h
                      rw [xnone (o := xs6 _ _ _ _ _) (fun q hh => by have := (xs6_g hh).symm.trans (xs10_g hq).1; cases this), xnone (o := xs7 _ _ _) (fun q hh => by have := (xs7_g hh).symm.trans (xs10_g hq).1; cases this), xnone (o := xs8 _ _ _ _ _) (fun q hh => by have := (xs8_g hh).symm.trans (xs10_g hq).1; cases this)]
                      exact ⟨rfl, hs, hn⟩
                    · split at h
                      · next hq =>
                        cases h
                        rw [xnone (o := xs6 _ _ _ _ _) (fun q hh => by have := (xs6_g hh).symm.trans (xs11_g hq); cases this), xnone (o := xs7 _ _ _) (fun q hh => by have := (xs7_g hh).symm.trans (xs11_g hq); cases this), xnone (o := xs8 _ _ _ _ _) (fun q hh => by have := (xs8_g hh).symm.trans (xs11_g hq); cases this)]
                        exact ⟨rfl, hs, hn⟩
                      · split at h
                        · next hq =>
                          cases h
                          obtain ⟨e1, e2⟩ := xs12_sc (L := L) (xs := xs) hs hq
                          rw [xnone (o := xs6 _ _ _ _ _) (fun q hh => by have := (xs6_g hh).symm.trans (xs12_g hq).1; cases this), xnone (o := xs7 _ _ _) (fun q hh => by have := (xs7_g hh).symm.trans (xs12_g hq).1; cases this), xnone (o := xs8 _ _ _ _ _) (fun q hh => by have := (xs8_g hh).symm.trans (xs12_g hq).1; cases this), e1]
                          exact ⟨rfl, heq e2⟩
                        · split at h
                          · next hq =>
                            cases h
                            rw [xnone (o := xs6 _ _ _ _ _) (fun q hh => xs13_ne hq (xs6_g hh) (by decide) (by decide)), xnone (o := xs7 _ _ _) (fun q hh => xs13_ne hq (xs7_g hh) (by decide) (by decide)), xnone (o := xs8 _ _ _ _ _) (fun q hh => xs13_ne hq (xs8_g hh) (by decide) (by decide)), xnone (o := xs12 _ _ _ _ _) (fun q hh => xs13_ne hq (xs12_g hh).1 (by decide) (by decide))]
                            exact ⟨rfl, hs, hn⟩
                          · cases h
/-- an instruction that no plain group has, or a constructor's call -/
theorem xsim_grp {w : XRow} {x : XI} {lv : List (Nat × Value)} {q : List (Nat × Value) × List Value × XM} (h : xsim w x lv st m = some q) : 0 < xgrp x.2.1 := by
  unfold xsim at h
  split at h
  · next hq => rw [xs1_g hq]; decide
  · split at h
    · next hq => rw [xs6_g hq]; decide
    · split at h
      · next hq => rw [xs2_g hq]; decide
      · split at h
        · next hq => rw [xs5_g hq]; decide
        · split at h
          · next hq => rw [xs7_g hq]; decide
          · split at h
            · next hq => rw [xs3_g hq]; decide
            · split at h
              · next hq => rw [xs4_g hq]; decide
              · split at h
                · next hq => rw [xs8_g hq]; decide
                · split at h
                  · next hq => rw [xs9_g hq]; decide
                  · split at h
                    · next hq => rw [(xs10_g hq).1]; decide
                    · split at h
                      · next hq => rw [xs11_g hq]; decide
                      · split at h
                        · next hq => rw [(xs12_g hq).1]; decide
                        · split at h
                          · next hq => rcases xs13_g hq with e | e <;> rw [e] <;> decide
                          · cases h
theorem xbr_g {pc : Nat} {q : Option Nat × List Value} (h : xbr pc i st = some q) : xgrp i = 0 := by
  unfold xbr at h
  split at h
  all_goals first | rfl | cases h
theorem xret_g {r : Option FieldType} {v : Option Value} (h : xret r i st = some v) : xgrp i = 0 := by
  unfold xret at h
  split at h
  all_goals first | rfl | cases h
theorem xbr_ret {pc : Nat} {r : Option FieldType} {v : Option Value} (h : xret r i st = some v) : xbr pc i st = none := by
  unfold xret at h
  split at h
  all_goals first | rfl | cases h
theorem xcall_ret {P : Nat → Nat → XRow} {r : Option FieldType} {v : Option Value} (h : xret r i st = some v) : xcall P i a b st m = none := by
  unfold xret at h
  split at h
  all_goals first | rfl | cases h
theorem xcall_sc {P : Nat → Nat → XRow} {q : XRow × List Value × List Value} (h : xcall P i a b st m = some q) : xcall P i a b st (xsc L xs m) = some q ∧ (∀ pc, xbr pc i st = none) ∧ (a ≠ 999) := by
  unfold xcall at h ⊢
  split at h
  · split at h
    · next k r hd =>
      split at h
      · next hk =>
        cases h
        refine ⟨?_, fun pc => rfl, by have := hk.2.1; omega⟩
        try dsimp only
        rw [xsc_sh (xne0 hk.1.1)]
        exact if_pos hk
      · cases h
    · cases h
  · split at h
    · next k r hd =>
      split at h
      · next hk =>
        cases h
        exact ⟨if_pos hk, fun pc => rfl, by have := hk.1; omega⟩
      · cases h
    · cases h
  · split at h
    · next hk =>
      cases h
      exact ⟨if_pos hk, fun pc => rfl, by have := hk.1; omega⟩
    · cases h
  · cases h
theorem xcall_sim {P : Nat → Nat → XRow} {q : XRow × List Value × List Value} {w : XRow} {x : XI} {lv : List (Nat × Value)} (h : xcall P x.2.1 x.2.2.1 x.2.2.2.1 st m = some q) (m2 : XM) : xsim w x lv st m2 = none := by
  have ha : x.2.2.1 ≠ 999 := (xcall_sc (L := 0) (xs := fun _ => 0) h).2.2
  obtain ⟨pc, i, a, b, c⟩ := x
  dsimp only at h ha
  unfold xcall at h
  split at h
  · unfold xsim
    dsimp only [xs1, xs2, xs3, xs4, xs5, xs6, xs7, xs8, xs9, xs10, xs11, xs12, xs13]
    rw [if_neg ha]
  · unfold xsim
    dsimp only [xs1, xs2, xs3, xs4, xs5, xs6, xs7, xs9, xs10, xs11, xs12, xs13]
    rw [xnone (o := xs8 _ _ _ _ _) (fun q hh => by
      dsimp only [xs8] at hh
      split at hh
      · split at hh
        · next h9 => exact ha h9.1
        · cases hh
      · cases hh)]
  · unfold xsim
    dsimp only [xs1, xs2, xs3, xs4, xs5, xs6, xs7, xs8, xs9]
    rw [xnone (o := xs10 _ _ _ _) (fun q hh => ha (xs10_g hh).2)]
    dsimp only [xs11]
    rw [xnone (o := xs12 _ _ _ _ _) (fun q hh => ha (xs12_g hh).2)]
    dsimp only [xs13]
  · cases h
theorem xrun_sc {P : Nat → Nat → XRow} : ∀ (f d : Nat) (w : XRow) (code : List XI) (fall : Nat) (lv : List (Nat × Value)) (st : List Value) (m : XM) (v : Option Value) (mF : XM), xrun P f d w code fall lv st m = some (v, mF) → xsh m 0 = (0, 0) → x0 ≤ xn m →
    xrun P f d w code fall lv st (xsc L xs m) = some (v, xsc L xs mF) ∧ xsh mF 0 = (0, 0) ∧ x0 ≤ xn mF := by
  intro f
  induction f with
  | zero => intro d w code fall lv st m v mF h; rw [xrun_0] at h; cases h
  | succ f ih =>
    intro d w code fall lv st m v mF h hs hn
    rw [xrun_s] at h ⊢
    unfold xbody at h ⊢
    split at h
    · rw [xgo_eq] at h ⊢; exact ih _ _ _ _ _ _ _ _ _ h hs hn
    · next x r =>
      skip
      split at h
      · next q hq =>
        obtain ⟨e1, e2, e3⟩ := xsim_sc (L := L) (xs := xs) (lv' := q.1) (st' := q.2.1) (m1 := q.2.2) hs hn hq
        rw [e1]
        exact ih _ _ _ _ _ _ _ _ _ h e2 e3
      · split at h
        · next q hq =>
          rw [xnone (o := xsim _ _ _ _ _) (fun q2 hh => by have := xsim_grp hh; rw [xbr_g hq] at this; exact absurd this (Nat.lt_irrefl 0))]
          dsimp only
          split at h
          · rw [xgo_eq] at h ⊢; exact ih _ _ _ _ _ _ _ _ _ h hs hn
          · exact ih _ _ _ _ _ _ _ _ _ h hs hn
        · next hbr =>
          split at h
          · next q hq =>
            obtain ⟨e1, e2, -⟩ := xcall_sc (L := L) (xs := xs) hq
            rw [xcall_sim hq, e1]
            dsimp only
            split at h
            · next hav =>
              rw [if_pos hav]
              split at h
              · cases h
              · split at h
                · next o ho =>
                  rw [xgo_eq] at ho
                  obtain ⟨g1, g2, g3⟩ := ih _ _ _ _ _ _ _ _ _ (show xrun P f _ _ _ _ _ _ _ = some (o.1, o.2) from ho) hs hn
                  skip
                  rw [xgo_eq, g1]
                  exact ih _ _ _ _ _ _ _ _ _ h g2 g3
                · cases h
            · cases h
          · split at h
            · next v2 hv2 =>
              cases h
              rw [xnone (o := xsim _ _ _ _ _) (fun q2 hh => by have := xsim_grp hh; rw [xret_g hv2] at this; exact absurd this (Nat.lt_irrefl 0)), xcall_ret hv2]
              exact ⟨rfl, hs, hn⟩
            · cases h
end XHD
