/-! RULES: a run goes on, an instruction a rule -/
def Xr (P : Nat → Nat → XRow) (d : Nat) (w : XRow) (code : List XI) (fall : Nat) (lv : List (Nat × Value)) (st : List Value) (m : XM) (Q : Option Value → XM → Prop) : Prop := ∃ (f : Nat) (v : Option Value) (mF : XM), xrun P f d w code fall lv st m = some (v, mF) ∧ Q v mF
/-- more fuel, the same run -/
theorem xrun_up {P : Nat → Nat → XRow} : ∀ (f d : Nat) (w : XRow) (code : List XI) (fall : Nat) (lv : List (Nat × Value)) (st : List Value) (m : XM) (o : Option Value × XM), xrun P f d w code fall lv st m = some o → ∀ g, f ≤ g → xrun P g d w code fall lv st m = some o := by
  intro f
  induction f with
  | zero => intro d w code fall lv st m o h; rw [xrun_0] at h; cases h
  | succ f ih =>
    intro d w code fall lv st m o h g hg
    obtain ⟨g', rfl⟩ : ∃ g', g = g' + 1 := ⟨g - 1, by omega⟩
    have hg' : f ≤ g' := by omega
    rw [xrun_s] at h ⊢
    unfold xbody at h ⊢
    split at h
    · rw [xgo_eq] at h ⊢; exact ih _ _ _ _ _ _ _ _ h _ hg'
    · try dsimp only
      split at h
      · next q hq => exact ih _ _ _ _ _ _ _ _ h _ hg'
      · next hq =>
        try rw [hq]
        try dsimp only
        split at h
        · next q hq =>
          try rw [hq]
          try dsimp only
          split at h
          · next ht => rw [xgo_eq] at h ⊢; exact ih _ _ _ _ _ _ _ _ h _ hg'
          · next ht => exact ih _ _ _ _ _ _ _ _ h _ hg'
        · next hq =>
          try rw [hq]
          try dsimp only
          split at h
          · next q hq =>
            try rw [hq]
            try dsimp only
            split at h
            · next hav =>
              try rw [if_pos hav]
              split at h
              · cases h
              · split at h
                · next o2 ho =>
                  try dsimp only
                  rw [xgo_eq] at ho ⊢
                  rw [ih _ _ _ _ _ _ _ _ ho _ hg']
                  exact ih _ _ _ _ _ _ _ _ h _ hg'
                · cases h
            · cases h
          · next hq => exact h
section XRU
variable {P : Nat → Nat → XRow} {d : Nat} {w : XRow} {r : List XI} {fall : Nat} {lv lv' : List (Nat × Value)} {st st' : List Value} {m m' : XM} {Q : Option Value → XM → Prop} {x : XI}
theorem X_sim (h : xsim w x lv st m = some (lv', st', m')) (k : Xr P d w r fall lv' st' m' Q) : Xr P d w (x :: r) fall lv st m Q := by
  obtain ⟨f, v, mF, h1, h2⟩ := k
  refine ⟨f + 1, v, mF, ?_, h2⟩
  rw [xrun_s]
  unfold xbody
  dsimp only
  rw [h]
  exact h1
theorem X_go {t : Nat} {code : List XI} {fl : Nat} (hb : xfind w.2.2.2.2.2 t = (code, fl)) (k : Xr P d w code fl lv st m Q) : Xr P d w [] t lv st m Q := by
  obtain ⟨f, v, mF, h1, h2⟩ := k
  refine ⟨f + 1, v, mF, ?_, h2⟩
  rw [xrun_s]
  unfold xbody
  dsimp only
  rw [xgo_eq, hb]
  exact h1
theorem X_brn (h : xbr x.1 x.2.1 st = some (none, st')) (k : Xr P d w r fall lv st' m Q) : Xr P d w (x :: r) fall lv st m Q := by
  obtain ⟨f, v, mF, h1, h2⟩ := k
  refine ⟨f + 1, v, mF, ?_, h2⟩
  rw [xrun_s]
  unfold xbody
  dsimp only
  rw [xnone (o := xsim _ _ _ _ _) (fun q2 hh => by have := xsim_grp hh; rw [xbr_g h] at this; exact absurd this (Nat.lt_irrefl 0)), h]
  exact h1
theorem X_brt {t : Nat} {code : List XI} {fl : Nat} (h : xbr x.1 x.2.1 st = some (some t, st')) (hb : xfind w.2.2.2.2.2 t = (code, fl)) (k : Xr P d w code fl lv st' m Q) : Xr P d w (x :: r) fall lv st m Q := by
  obtain ⟨f, v, mF, h1, h2⟩ := k
  refine ⟨f + 1, v, mF, ?_, h2⟩
  rw [xrun_s]
  unfold xbody
  dsimp only
  rw [xnone (o := xsim _ _ _ _ _) (fun q2 hh => by have := xsim_grp hh; rw [xbr_g h] at this; exact absurd this (Nat.lt_irrefl 0)), h]
  dsimp only
  rw [xgo_eq, hb]
  exact h1
theorem X_call {row : XRow} {av rest : List Value} {code : List XI} {fl : Nat} (h : xcall P x.2.1 x.2.2.1 x.2.2.2.1 st m = some (row, av, rest)) (hav : Nat.ble (xcats av) row.2.2.2.1 = true) (hb : xfind row.2.2.2.2.2 0 = (code, fl))
    (k : Xr P d row code fl (lv_args 0 av) [] m (fun v m' => Xr P (d + 1) w r fall lv (v.toList ++ rest) m' Q)) : Xr P (d + 1) w (x :: r) fall lv st m Q := by
  obtain ⟨f, v, m1, h1, f2, v2, mF, h2, h3⟩ := k
  refine ⟨max f f2 + 1, v2, mF, ?_, h3⟩
  have hc := xcall_sc (L := 0) (xs := fun _ => 0) h
  rw [xrun_s]
  unfold xbody
  dsimp only
  rw [xcall_sim h, hc.2.1, h]
  dsimp only
  rw [if_pos hav, xgo_eq, hb]
  dsimp only
  rw [xrun_up _ _ _ _ _ _ _ _ _ h1 _ (Nat.le_max_left f f2)]
  exact xrun_up _ _ _ _ _ _ _ _ _ h2 _ (Nat.le_max_right f f2)
theorem X_ret {v : Option Value} (h : xret w.2.2.2.2.1 x.2.1 st = some v) (k : Q v m) : Xr P d w (x :: r) fall lv st m Q := by
  refine ⟨1, v, m, ?_, k⟩
  rw [xrun_s]
  unfold xbody
  dsimp only
  rw [xnone (o := xsim _ _ _ _ _) (fun q2 hh => by have := xsim_grp hh; rw [xret_g h] at this; exact absurd this (Nat.lt_irrefl 0)), xbr_ret h, xcall_ret h, h]
theorem X_post {Q' : Option Value → XM → Prop} {code : List XI} (h : Xr P d w code fall lv st m Q) (hq : ∀ v m', Q v m' → Q' v m') : Xr P d w code fall lv st m Q' := by
  obtain ⟨f, v, mF, h1, h2⟩ := h
  exact ⟨f, v, mF, h1, hq v mF h2⟩
/-- beside a script -/
theorem X_sc {L : Nat} {xs : Nat → Int32} {code : List XI} (hs : xsh m 0 = (0, 0)) (hn : x0 ≤ xn m) (h : Xr P d w code fall lv st m Q) : Xr P d w code fall lv st (xsc L xs m) (fun v mF => ∃ m1, mF = xsc L xs m1 ∧ Q v m1 ∧ xsh m1 0 = (0, 0) ∧ x0 ≤ xn m1) := by
  obtain ⟨f, v, mF, h1, h2⟩ := h
  obtain ⟨g1, g2, g3⟩ := xrun_sc (L := L) (xs := xs) _ _ _ _ _ _ _ _ _ _ h1 hs hn
  exact ⟨f, v, _, g1, mF, rfl, h2, g2, g3⟩
-- plain instructions
variable {pc a b : Nat} {c : Int}
theorem X_iload_n {k : Fin 4} {v : Int32} (h : xlk lv k.val = some (.int v)) (kk : Xr P d w r fall lv (.int v :: st) m Q) : Xr P d w ((pc, .iload_n k, a, b, c) :: r) fall lv st m Q := X_sim (by unfold xsim xs1; dsimp only; rw [h]) kk
theorem X_iload {k : Nat} {v : Int32} (h : xlk lv k = some (.int v)) (kk : Xr P d w r fall lv (.int v :: st) m Q) : Xr P d w ((pc, .iload k, a, b, c) :: r) fall lv st m Q := X_sim (by unfold xsim xs1; dsimp only; rw [h]) kk
theorem X_lload_n {k : Fin 4} {v : Int64} (h : xlk lv k.val = some (.long v)) (kk : Xr P d w r fall lv (.long v :: st) m Q) : Xr P d w ((pc, .lload_n k, a, b, c) :: r) fall lv st m Q := X_sim (by unfold xsim xs1; dsimp only; rw [h]) kk
theorem X_lload {k : Nat} {v : Int64} (h : xlk lv k = some (.long v)) (kk : Xr P d w r fall lv (.long v :: st) m Q) : Xr P d w ((pc, .lload k, a, b, c) :: r) fall lv st m Q := X_sim (by unfold xsim xs1; dsimp only; rw [h]) kk
theorem X_aload_n {k : Fin 4} {v : Nat} (h : xlk lv k.val = some (.ref v)) (kk : Xr P d w r fall lv (.ref v :: st) m Q) : Xr P d w ((pc, .aload_n k, a, b, c) :: r) fall lv st m Q := X_sim (by unfold xsim xs1; dsimp only; rw [h]) kk
theorem X_aload {k : Nat} {v : Nat} (h : xlk lv k = some (.ref v)) (kk : Xr P d w r fall lv (.ref v :: st) m Q) : Xr P d w ((pc, .aload k, a, b, c) :: r) fall lv st m Q := X_sim (by unfold xsim xs1; dsimp only; rw [h]) kk
theorem X_get {i : Nat} {k : Nat} {v : Value} (h : x0 ≤ k ∧ k < xn m ∧ (xsh m k).1 = a) (hv : xval m (b % 8) k (b / 8) = v) (kk : Xr P d w r fall lv (v :: st) m Q) : Xr P d w ((pc, .getfield i, a, b, c) :: r) fall lv (.ref k :: st) m Q := X_sim (by unfold xsim xs1 xs6; dsimp only; rw [if_pos h, hv]) kk
theorem X_put {i : Nat} {k : Nat} {v : Value} (h : x0 ≤ k ∧ k < xn m ∧ (xsh m k).1 = a) (hv : xput m (b % 8) k (b / 8) v = some m') (kk : Xr P d w r fall lv st m' Q) : Xr P d w ((pc, .putfield i, a, b, c) :: r) fall lv (v :: .ref k :: st) m Q := X_sim (by unfold xsim xs1 xs6; dsimp only; rw [if_pos h, hv]) kk
theorem X_iaload {k : Nat} {j v : Int32} (h : k < xn m ∧ (xsh m k).1 = 100 ∧ xin j (xsh m k).2 = true) (hv : m.1 k j.toNatClampNeg = v) (kk : Xr P d w r fall lv (.int v :: st) m Q) : Xr P d w ((pc, .iaload, a, b, c) :: r) fall lv (.int j :: .ref k :: st) m Q := X_sim (by unfold xsim xs1 xs6; dsimp only; rw [if_pos h, hv]) kk
theorem X_s6 {i : Instr} {st : List Value} (h1 : xs1 i lv st = none) (h : xs6 i a b st m = some (st', m')) (kk : Xr P d w r fall lv st' m' Q) : Xr P d w ((pc, i, a, b, c) :: r) fall lv st m Q := X_sim (by unfold xsim; dsimp only; rw [h1, h]) kk
theorem X_s1 {i : Instr} (h : xs1 i lv st = some st') (kk : Xr P d w r fall lv st' m Q) : Xr P d w ((pc, i, a, b, c) :: r) fall lv st m Q := X_sim (by unfold xsim; dsimp only; rw [h]) kk
theorem X_s2 {i : Instr} (h : xs2 i st = some st') (kk : Xr P d w r fall lv st' m Q) : Xr P d w ((pc, i, a, b, c) :: r) fall lv st m Q := X_sim (by
  unfold xsim; dsimp only
  rw [xnone (o := xs1 _ _ _) (fun q hh => by have := (xs1_g hh).symm.trans (xs2_g h); cases this), xnone (o := xs6 _ _ _ _ _) (fun q hh => by have := (xs6_g hh).symm.trans (xs2_g h); cases this), h]) kk
theorem X_s3 {i : Instr} (h : xs3 i st = some st') (kk : Xr P d w r fall lv st' m Q) : Xr P d w ((pc, i, a, b, c) :: r) fall lv st m Q := X_sim (by
  unfold xsim; dsimp only
  rw [xnone (o := xs1 _ _ _) (fun q hh => by have := (xs1_g hh).symm.trans (xs3_g h); cases this), xnone (o := xs6 _ _ _ _ _) (fun q hh => by have := (xs6_g hh).symm.trans (xs3_g h); cases this), xnone (o := xs2 _ _) (fun q hh => by have := (xs2_g hh).symm.trans (xs3_g h); cases this), xnone (o := xs5 _ _ _ _) (fun q hh => by have := (xs5_g hh).symm.trans (xs3_g h); cases this), xnone (o := xs7 _ _ _) (fun q hh => by have := (xs7_g hh).symm.trans (xs3_g h); cases this), h]) kk
theorem X_s4 {i : Instr} (h : xs4 i st = some st') (kk : Xr P d w r fall lv st' m Q) : Xr P d w ((pc, i, a, b, c) :: r) fall lv st m Q := X_sim (by
  unfold xsim; dsimp only
  rw [xnone (o := xs1 _ _ _) (fun q hh => by have := (xs1_g hh).symm.trans (xs4_g h); cases this), xnone (o := xs6 _ _ _ _ _) (fun q hh => by have := (xs6_g hh).symm.trans (xs4_g h); cases this), xnone (o := xs2 _ _) (fun q hh => by have := (xs2_g hh).symm.trans (xs4_g h); cases this), xnone (o := xs5 _ _ _ _) (fun q hh => by have := (xs5_g hh).symm.trans (xs4_g h); cases this), xnone (o := xs7 _ _ _) (fun q hh => by have := (xs7_g hh).symm.trans (xs4_g h); cases this), xnone (o := xs3 _ _) (fun q hh => by have := (xs3_g hh).symm.trans (xs4_g h); cases this), h]) kk
theorem X_s5 {i : Instr} (h : xs5 w.2.2.2.1 i lv st = some (lv', st')) (kk : Xr P d w r fall lv' st' m Q) : Xr P d w ((pc, i, a, b, c) :: r) fall lv st m Q := X_sim (by
  unfold xsim; dsimp only
  rw [xnone (o := xs1 _ _ _) (fun q hh => by have := (xs1_g hh).symm.trans (xs5_g h); cases this), xnone (o := xs6 _ _ _ _ _) (fun q hh => by have := (xs6_g hh).symm.trans (xs5_g h); cases this), xnone (o := xs2 _ _) (fun q hh => by have := (xs2_g hh).symm.trans (xs5_g h); cases this), h]) kk
theorem X_s7 {i : Instr} (h : xs7 i st m = some (st', m')) (kk : Xr P d w r fall lv st' m' Q) : Xr P d w ((pc, i, a, b, c) :: r) fall lv st m Q := X_sim (by
  unfold xsim; dsimp only
  rw [xnone (o := xs1 _ _ _) (fun q hh => by have := (xs1_g hh).symm.trans (xs7_g h); cases this), xnone (o := xs6 _ _ _ _ _) (fun q hh => by have := (xs6_g hh).symm.trans (xs7_g h); cases this), xnone (o := xs2 _ _) (fun q hh => by have := (xs2_g hh).symm.trans (xs7_g h); cases this), xnone (o := xs5 _ _ _ _) (fun q hh => by have := (xs5_g hh).symm.trans (xs7_g h); cases this), h]) kk
theorem X_s8 {i : Instr} (h : xs8 i a b st m = some (st', m')) (kk : Xr P d w r fall lv st' m' Q) : Xr P d w ((pc, i, a, b, c) :: r) fall lv st m Q := X_sim (by
  unfold xsim; dsimp only
  rw [xnone (o := xs1 _ _ _) (fun q hh => by have := (xs1_g hh).symm.trans (xs8_g h); cases this), xnone (o := xs6 _ _ _ _ _) (fun q hh => by have := (xs6_g hh).symm.trans (xs8_g h); cases this), xnone (o := xs2 _ _) (fun q hh => by have := (xs2_g hh).symm.trans (xs8_g h); cases this), xnone (o := xs5 _ _ _ _) (fun q hh => by have := (xs5_g hh).symm.trans (xs8_g h); cases this), xnone (o := xs7 _ _ _) (fun q hh => by have := (xs7_g hh).symm.trans (xs8_g h); cases this), xnone (o := xs3 _ _) (fun q hh => by have := (xs3_g hh).symm.trans (xs8_g h); cases this), xnone (o := xs4 _ _) (fun q hh => by have := (xs4_g hh).symm.trans (xs8_g h); cases this), h]) kk
theorem X_s9 {i : Instr} (h : xs9 i a c st = some st') (kk : Xr P d w r fall lv st' m Q) : Xr P d w ((pc, i, a, b, c) :: r) fall lv st m Q := X_sim (by
  unfold xsim; dsimp only
  rw [xnone (o := xs1 _ _ _) (fun q hh => by have := (xs1_g hh).symm.trans (xs9_g h); cases this), xnone (o := xs6 _ _ _ _ _) (fun q hh => by have := (xs6_g hh).symm.trans (xs9_g h); cases this), xnone (o := xs2 _ _) (fun q hh => by have := (xs2_g hh).symm.trans (xs9_g h); cases this), xnone (o := xs5 _ _ _ _) (fun q hh => by have := (xs5_g hh).symm.trans (xs9_g h); cases this), xnone (o := xs7 _ _ _) (fun q hh => by have := (xs7_g hh).symm.trans (xs9_g h); cases this), xnone (o := xs3 _ _) (fun q hh => by have := (xs3_g hh).symm.trans (xs9_g h); cases this), xnone (o := xs4 _ _) (fun q hh => by have := (xs4_g hh).symm.trans (xs9_g h); cases this), xnone (o := xs8 _ _ _ _ _) (fun q hh => by have := (xs8_g hh).symm.trans (xs9_g h); cases this), h]) kk
theorem X_s10 {i : Instr} (h : xs10 i a b st = some st') (kk : Xr P d w r fall lv st' m Q) : Xr P d w ((pc, i, a, b, c) :: r) fall lv st m Q := X_sim (by
  unfold xsim; dsimp only
  rw [xnone (o := xs1 _ _ _) (fun q hh => by have := (xs1_g hh).symm.trans (xs10_g h).1; cases this), xnone (o := xs6 _ _ _ _ _) (fun q hh => by have := (xs6_g hh).symm.trans (xs10_g h).1; cases this), xnone (o := xs2 _ _) (fun q hh => by have := (xs2_g hh).symm.trans (xs10_g h).1; cases this), xnone (o := xs5 _ _ _ _) (fun q hh => by have := (xs5_g hh).symm.trans (xs10_g h).1; cases this), xnone (o := xs7 _ _ _) (fun q hh => by have := (xs7_g hh).symm.trans (xs10_g h).1; cases this), xnone (o := xs3 _ _) (fun q hh => by have := (xs3_g hh).symm.trans (xs10_g h).1; cases this), xnone (o := xs4 _ _) (fun q hh => by have := (xs4_g hh).symm.trans (xs10_g h).1; cases this), xnone (o := xs8 _ _ _ _ _) (fun q hh => by have := (xs8_g hh).symm.trans (xs10_g h).1; cases this), xnone (o := xs9 _ _ _ _) (fun q hh => by have := (xs9_g hh).symm.trans (xs10_g h).1; cases this), h]) kk
theorem X_s11 {i : Instr} (h : xs11 i a st = some st') (kk : Xr P d w r fall lv st' m Q) : Xr P d w ((pc, i, a, b, c) :: r) fall lv st m Q := X_sim (by
  unfold xsim; dsimp only
  rw [xnone (o := xs1 _ _ _) (fun q hh => by have := (xs1_g hh).symm.trans (xs11_g h); cases this), xnone (o := xs6 _ _ _ _ _) (fun q hh => by have := (xs6_g hh).symm.trans (xs11_g h); cases this), xnone (o := xs2 _ _) (fun q hh => by have := (xs2_g hh).symm.trans (xs11_g h); cases this), xnone (o := xs5 _ _ _ _) (fun q hh => by have := (xs5_g hh).symm.trans (xs11_g h); cases this), xnone (o := xs7 _ _ _) (fun q hh => by have := (xs7_g hh).symm.trans (xs11_g h); cases this), xnone (o := xs3 _ _) (fun q hh => by have := (xs3_g hh).symm.trans (xs11_g h); cases this), xnone (o := xs4 _ _) (fun q hh => by have := (xs4_g hh).symm.trans (xs11_g h); cases this), xnone (o := xs8 _ _ _ _ _) (fun q hh => by have := (xs8_g hh).symm.trans (xs11_g h); cases this), xnone (o := xs9 _ _ _ _) (fun q hh => by have := (xs9_g hh).symm.trans (xs11_g h); cases this), xnone (o := xs10 _ _ _ _) (fun q hh => by have := (xs10_g hh).1.symm.trans (xs11_g h); cases this), h]) kk
theorem X_s12 {i : Instr} (h : xs12 i a b st m = some (st', m')) (kk : Xr P d w r fall lv st' m' Q) : Xr P d w ((pc, i, a, b, c) :: r) fall lv st m Q := X_sim (by
  unfold xsim; dsimp only
  rw [xnone (o := xs1 _ _ _) (fun q hh => by have := (xs1_g hh).symm.trans (xs12_g h).1; cases this), xnone (o := xs6 _ _ _ _ _) (fun q hh => by have := (xs6_g hh).symm.trans (xs12_g h).1; cases this), xnone (o := xs2 _ _) (fun q hh => by have := (xs2_g hh).symm.trans (xs12_g h).1; cases this), xnone (o := xs5 _ _ _ _) (fun q hh => by have := (xs5_g hh).symm.trans (xs12_g h).1; cases this), xnone (o := xs7 _ _ _) (fun q hh => by have := (xs7_g hh).symm.trans (xs12_g h).1; cases this), xnone (o := xs3 _ _) (fun q hh => by have := (xs3_g hh).symm.trans (xs12_g h).1; cases this), xnone (o := xs4 _ _) (fun q hh => by have := (xs4_g hh).symm.trans (xs12_g h).1; cases this), xnone (o := xs8 _ _ _ _ _) (fun q hh => by have := (xs8_g hh).symm.trans (xs12_g h).1; cases this), xnone (o := xs9 _ _ _ _) (fun q hh => by have := (xs9_g hh).symm.trans (xs12_g h).1; cases this), xs12_10 h, xnone (o := xs11 _ _ _) (fun q hh => by have := (xs11_g hh).symm.trans (xs12_g h).1; cases this), h]) kk
theorem X_s13 {i : Instr} (h : xs13 i a b st = some st') (kk : Xr P d w r fall lv st' m Q) : Xr P d w ((pc, i, a, b, c) :: r) fall lv st m Q := X_sim (xsim_13 h) kk
end XRU
section XRV
variable {P : Nat → Nat → XRow} {d : Nat} {w : XRow} {r : List XI} {fall : Nat} {lv lv' : List (Nat × Value)} {st st' : List Value} {Q : Option Value → XM → Prop} {x : XI}
variable {I : Nat → Nat → Int32} {L : Nat → Nat → Int64} {Rr : Nat → Nat → Option Nat} {S : (Nat → Nat × Nat) × Nat × Nat} {pc a b : Nat} {c : Int} {m : XM}
/-- memory in its parts: a cell of a kind is there -/
theorem xge110 {t : Nat} (h : t = 130) : 110 ≤ t := by omega
/-- is there -/
def xat (S : (Nat → Nat × Nat) × Nat × Nat) (k t : Nat) : Prop := x0 ≤ k ∧ k < S.2.1 ∧ (S.1 k).1 = t
theorem Y_ic {n : Int} {v : Int32} (hv : Int32.ofInt n = v) (kk : Xr P d w r fall lv (.int v :: st) m Q) : Xr P d w ((pc, .iconst n, a, b, c) :: r) fall lv st m Q := X_s1 rfl (by rw [hv]; exact kk)
theorem Y_bi {n : Int} {v : Int32} (hv : (Int8.ofInt n).toInt32 = v) (kk : Xr P d w r fall lv (.int v :: st) m Q) : Xr P d w ((pc, .bipush n, a, b, c) :: r) fall lv st m Q := X_s1 rfl (by rw [hv]; exact kk)
theorem Y_si {n : Int} {v : Int32} (hv : (Int16.ofInt n).toInt32 = v) (kk : Xr P d w r fall lv (.int v :: st) m Q) : Xr P d w ((pc, .sipush n, a, b, c) :: r) fall lv st m Q := X_s1 rfl (by rw [hv]; exact kk)
theorem Y_lc {n : Fin 2} {v : Int64} (hv : Int64.ofNat n.val = v) (kk : Xr P d w r fall lv (.long v :: st) m Q) : Xr P d w ((pc, .lconst n, a, b, c) :: r) fall lv st m Q := X_s1 rfl (by rw [hv]; exact kk)
/-- a number's new name -/
theorem Y_ti {x v : Int32} (h : x = v) {code : List XI} (kk : Xr P d w code fall lv (.int v :: st) m Q) : Xr P d w code fall lv (.int x :: st) m Q := h ▸ kk
theorem Y_tl {x v : Int64} (h : x = v) {code : List XI} (kk : Xr P d w code fall lv (.long v :: st) m Q) : Xr P d w code fall lv (.long x :: st) m Q := h ▸ kk
theorem Y_getI {i k : Nat} {v : Int32} (h : xat S k a) (hb : b % 8 = 0 ∨ b % 8 = 3) (hv : I k (b / 8) = v) (kk : Xr P d w r fall lv (.int v :: st) (I, L, Rr, S) Q) : Xr P d w ((pc, .getfield i, a, b, c) :: r) fall lv (.ref k :: st) (I, L, Rr, S) Q :=
  X_get (m := (I, L, Rr, S)) h (by rcases hb with h9 | h9 <;> (rw [h9]; exact congrArg Value.int hv)) kk
theorem Y_getL {i k : Nat} {v : Int64} (h : xat S k a) (hb : b % 8 = 1) (hv : L k (b / 8) = v) (kk : Xr P d w r fall lv (.long v :: st) (I, L, Rr, S) Q) : Xr P d w ((pc, .getfield i, a, b, c) :: r) fall lv (.ref k :: st) (I, L, Rr, S) Q :=
  X_get (m := (I, L, Rr, S)) h (by rw [hb]; exact congrArg Value.long hv) kk
theorem Y_getR {i k v : Nat} (h : xat S k a) (hb : b % 8 = 2) (hv : Rr k (b / 8) = some v) (kk : Xr P d w r fall lv (.ref v :: st) (I, L, Rr, S) Q) : Xr P d w ((pc, .getfield i, a, b, c) :: r) fall lv (.ref k :: st) (I, L, Rr, S) Q :=
  X_get (m := (I, L, Rr, S)) h (by rw [hb]; exact congrArg va_rf hv) kk
theorem Y_getN {i k : Nat} (h : xat S k a) (hb : b % 8 = 2) (hv : Rr k (b / 8) = none) (kk : Xr P d w r fall lv (.null :: st) (I, L, Rr, S) Q) : Xr P d w ((pc, .getfield i, a, b, c) :: r) fall lv (.ref k :: st) (I, L, Rr, S) Q :=
  X_get (m := (I, L, Rr, S)) h (by rw [hb]; exact congrArg va_rf hv) kk
theorem Y_putI {i k : Nat} {v : Int32} (h : xat S k a) (hb : b % 8 = 0) (kk : Xr P d w r fall lv st (xu I k (b / 8) v, L, Rr, S) Q) : Xr P d w ((pc, .putfield i, a, b, c) :: r) fall lv (.int v :: .ref k :: st) (I, L, Rr, S) Q :=
  X_put (m := (I, L, Rr, S)) h (by rw [hb]; rfl) kk
theorem Y_putZ {i k : Nat} {v : Int32} (h : xat S k a) (hb : b % 8 = 3) (hv : v &&& 1 = v) (kk : Xr P d w r fall lv st (xu I k (b / 8) v, L, Rr, S) Q) : Xr P d w ((pc, .putfield i, a, b, c) :: r) fall lv (.int v :: .ref k :: st) (I, L, Rr, S) Q :=
  X_put (m := (I, L, Rr, S)) h (by rw [hb]; exact if_pos hv) kk
theorem Y_putL {i k : Nat} {v : Int64} (h : xat S k a) (hb : b % 8 = 1) (kk : Xr P d w r fall lv st (I, xu L k (b / 8) v, Rr, S) Q) : Xr P d w ((pc, .putfield i, a, b, c) :: r) fall lv (.long v :: .ref k :: st) (I, L, Rr, S) Q :=
  X_put (m := (I, L, Rr, S)) h (by rw [hb]; rfl) kk
theorem Y_putR {i k v : Nat} (h : xat S k a) (hb : b % 8 = 2) (kk : Xr P d w r fall lv st (I, L, xu Rr k (b / 8) (some v), S) Q) : Xr P d w ((pc, .putfield i, a, b, c) :: r) fall lv (.ref v :: .ref k :: st) (I, L, Rr, S) Q :=
  X_put (m := (I, L, Rr, S)) h (by rw [hb]; rfl) kk
/-- an array's place is there -/
def xpl (S : (Nat → Nat × Nat) × Nat × Nat) (k t : Nat) (j : Int32) (n : Nat) : Prop := k < S.2.1 ∧ (S.1 k).1 = t ∧ xin j (S.1 k).2 = true ∧ j.toNatClampNeg = n
theorem Y_iald {k n : Nat} {j v : Int32} (h : xpl S k 100 j n) (hv : I k n = v) (kk : Xr P d w r fall lv (.int v :: st) (I, L, Rr, S) Q) : Xr P d w ((pc, .iaload, a, b, c) :: r) fall lv (.int j :: .ref k :: st) (I, L, Rr, S) Q :=
  X_iaload (m := (I, L, Rr, S)) ⟨h.1, h.2.1, h.2.2.1⟩ (by rw [h.2.2.2]; exact hv) kk
theorem Y_lald {k n : Nat} {j : Int32} {v : Int64} (h : xpl S k 101 j n) (hv : L k n = v) (kk : Xr P d w r fall lv (.long v :: st) (I, L, Rr, S) Q) : Xr P d w ((pc, .laload, a, b, c) :: r) fall lv (.int j :: .ref k :: st) (I, L, Rr, S) Q :=
  X_s6 (m := (I, L, Rr, S)) rfl ((if_pos ⟨h.1, h.2.1, h.2.2.1⟩).trans (by rw [h.2.2.2]; exact congrArg (fun z => some (Value.long z :: st, ((I, L, Rr, S) : XM))) hv)) kk
theorem Y_bald {k n t : Nat} {j v : Int32} (h : xpl S k t j n) (ht : t = 102 ∨ t = 103) (hv : I k n = v) (kk : Xr P d w r fall lv (.int v :: st) (I, L, Rr, S) Q) : Xr P d w ((pc, .baload, a, b, c) :: r) fall lv (.int j :: .ref k :: st) (I, L, Rr, S) Q :=
  X_s6 (m := (I, L, Rr, S)) rfl ((if_pos ⟨h.1, ht.imp (fun q => h.2.1.trans q) (fun q => h.2.1.trans q), h.2.2.1⟩).trans (by rw [h.2.2.2]; exact congrArg (fun z => some (Value.int z :: st, ((I, L, Rr, S) : XM))) hv)) kk
theorem Y_cald {k n : Nat} {j v : Int32} (h : xpl S k 104 j n) (hv : I k n = v) (kk : Xr P d w r fall lv (.int v :: st) (I, L, Rr, S) Q) : Xr P d w ((pc, .caload, a, b, c) :: r) fall lv (.int j :: .ref k :: st) (I, L, Rr, S) Q :=
  X_s6 (m := (I, L, Rr, S)) rfl ((if_pos ⟨h.1, h.2.1, h.2.2.1⟩).trans (by rw [h.2.2.2]; exact congrArg (fun z => some (Value.int z :: st, ((I, L, Rr, S) : XM))) hv)) kk
theorem Y_aald {k n v : Nat} {j : Int32} (h : xpl S k 130 j n) (hv : Rr k n = some v) (kk : Xr P d w r fall lv (.ref v :: st) (I, L, Rr, S) Q) : Xr P d w ((pc, .aaload, a, b, c) :: r) fall lv (.int j :: .ref k :: st) (I, L, Rr, S) Q :=
  X_s6 (m := (I, L, Rr, S)) rfl ((if_pos ⟨h.1, xge110 h.2.1, h.2.2.1⟩).trans (by rw [h.2.2.2]; exact congrArg (fun z => some (va_rf z :: st, ((I, L, Rr, S) : XM))) hv)) kk
theorem Y_alen {k t n : Nat} {v : Int32} (h : k < S.2.1 ∧ S.1 k = (t, n)) (ht : 100 ≤ t) (hv : Int32.ofNat n = v) (kk : Xr P d w r fall lv (.int v :: st) (I, L, Rr, S) Q) : Xr P d w ((pc, .arraylength, a, b, c) :: r) fall lv (.ref k :: st) (I, L, Rr, S) Q :=
  X_s6 (m := (I, L, Rr, S)) rfl ((if_pos ⟨h.1, (by show 100 ≤ (S.1 k).1; rw [h.2]; exact ht)⟩).trans (by show some (Value.int (Int32.ofNat (S.1 k).2) :: st, ((I, L, Rr, S) : XM)) = _; rw [h.2]; exact congrArg (fun z => some (Value.int z :: st, ((I, L, Rr, S) : XM))) hv)) kk
theorem Y_iast {k n : Nat} {j v : Int32} (h0 : x0 ≤ k) (h : xpl S k 100 j n) (kk : Xr P d w r fall lv st (xu I k n v, L, Rr, S) Q) : Xr P d w ((pc, .iastore, a, b, c) :: r) fall lv (.int v :: .int j :: .ref k :: st) (I, L, Rr, S) Q :=
  X_s7 (m := (I, L, Rr, S)) ((if_pos ⟨h0, h.1, h.2.1, h.2.2.1⟩).trans (by rw [h.2.2.2]; rfl)) kk
theorem Y_last {k n : Nat} {j : Int32} {v : Int64} (h0 : x0 ≤ k) (h : xpl S k 101 j n) (kk : Xr P d w r fall lv st (I, xu L k n v, Rr, S) Q) : Xr P d w ((pc, .lastore, a, b, c) :: r) fall lv (.long v :: .int j :: .ref k :: st) (I, L, Rr, S) Q :=
  X_s7 (m := (I, L, Rr, S)) ((if_pos ⟨h0, h.1, h.2.1, h.2.2.1⟩).trans (by rw [h.2.2.2]; rfl)) kk
theorem Y_bast {k n : Nat} {j v : Int32} (h0 : x0 ≤ k) (h : xpl S k 102 j n) (kk : Xr P d w r fall lv st (xu I k n v.toInt8.toInt32, L, Rr, S) Q) : Xr P d w ((pc, .bastore, a, b, c) :: r) fall lv (.int v :: .int j :: .ref k :: st) (I, L, Rr, S) Q :=
  X_s7 (m := (I, L, Rr, S)) ((if_pos ⟨h0, h.1, h.2.2.1⟩).trans ((if_pos h.2.1).trans (by rw [h.2.2.2]; rfl))) kk
theorem Y_zast {k n : Nat} {j v : Int32} (h0 : x0 ≤ k) (h : xpl S k 103 j n) (kk : Xr P d w r fall lv st (xu I k n (v &&& 1), L, Rr, S) Q) : Xr P d w ((pc, .bastore, a, b, c) :: r) fall lv (.int v :: .int j :: .ref k :: st) (I, L, Rr, S) Q :=
  X_s7 (m := (I, L, Rr, S)) ((if_pos ⟨h0, h.1, h.2.2.1⟩).trans ((if_neg (by show ¬ (S.1 k).1 = 102; rw [h.2.1]; decide)).trans ((if_pos h.2.1).trans (by rw [h.2.2.2]; rfl)))) kk
theorem Y_cast {k n : Nat} {j v : Int32} (h0 : x0 ≤ k) (h : xpl S k 104 j n) (kk : Xr P d w r fall lv st (xu I k n v.toUInt32.toUInt16.toUInt32.toInt32, L, Rr, S) Q) : Xr P d w ((pc, .castore, a, b, c) :: r) fall lv (.int v :: .int j :: .ref k :: st) (I, L, Rr, S) Q :=
  X_s7 (m := (I, L, Rr, S)) ((if_pos ⟨h0, h.1, h.2.1, h.2.2.1⟩).trans (by rw [h.2.2.2]; rfl)) kk
-- branches
theorem Y_go {o : Int} {t : Nat} {code : List XI} {fl : Nat} (ht : ((pc : Int) + o).toNat = t) (hb : xfind w.2.2.2.2.2 t = (code, fl)) (kk : Xr P d w code fl lv st m Q) : Xr P d w ((pc, .goto o, a, b, c) :: r) fall lv st m Q := X_brt (x := (pc, .goto o, a, b, c)) (t := t) (by show some (some ((pc : Int) + o).toNat, st) = _; rw [ht]) hb kk
theorem Y_if1 {cd : ClassFile.Cond} {o : Int} {t : Nat} {code : List XI} {fl : Nat} {x : Int32} (hc : xcond cd x 0 = true) (ht : ((pc : Int) + o).toNat = t) (hb : xfind w.2.2.2.2.2 t = (code, fl)) (kk : Xr P d w code fl lv st m Q) : Xr P d w ((pc, .ifCond cd o, a, b, c) :: r) fall lv (.int x :: st) m Q := X_brt (x := (pc, .ifCond cd o, a, b, c)) (t := t) (by show some (xif (xcond cd x 0) ((pc : Int) + o).toNat, st) = _; rw [hc, ht]; rfl) hb kk
theorem Y_if0 {cd : ClassFile.Cond} {o : Int} {x : Int32} (hc : xcond cd x 0 = false) (kk : Xr P d w r fall lv st m Q) : Xr P d w ((pc, .ifCond cd o, a, b, c) :: r) fall lv (.int x :: st) m Q := X_brn (x := (pc, .ifCond cd o, a, b, c)) (by show some (xif (xcond cd x 0) ((pc : Int) + o).toNat, st) = _; rw [hc]; rfl) kk
theorem Y_ic1 {cd : ClassFile.Cond} {o : Int} {t : Nat} {code : List XI} {fl : Nat} {x y : Int32} (hc : xcond cd x y = true) (ht : ((pc : Int) + o).toNat = t) (hb : xfind w.2.2.2.2.2 t = (code, fl)) (kk : Xr P d w code fl lv st m Q) : Xr P d w ((pc, .if_icmp cd o, a, b, c) :: r) fall lv (.int y :: .int x :: st) m Q := X_brt (x := (pc, .if_icmp cd o, a, b, c)) (t := t) (by show some (xif (xcond cd x y) ((pc : Int) + o).toNat, st) = _; rw [hc, ht]; rfl) hb kk
theorem Y_ic0 {cd : ClassFile.Cond} {o : Int} {x y : Int32} (hc : xcond cd x y = false) (kk : Xr P d w r fall lv st m Q) : Xr P d w ((pc, .if_icmp cd o, a, b, c) :: r) fall lv (.int y :: .int x :: st) m Q := X_brn (x := (pc, .if_icmp cd o, a, b, c)) (by show some (xif (xcond cd x y) ((pc : Int) + o).toNat, st) = _; rw [hc]; rfl) kk
theorem Y_null1 {o : Int} {t : Nat} {code : List XI} {fl : Nat} (ht : ((pc : Int) + o).toNat = t) (hb : xfind w.2.2.2.2.2 t = (code, fl)) (kk : Xr P d w code fl lv st m Q) : Xr P d w ((pc, .ifnull o, a, b, c) :: r) fall lv (.null :: st) m Q := X_brt (x := (pc, .ifnull o, a, b, c)) (t := t) (by show some (some ((pc : Int) + o).toNat, st) = _; rw [ht]) hb kk
theorem Y_null0 {o : Int} {k : Nat} (kk : Xr P d w r fall lv st m Q) : Xr P d w ((pc, .ifnull o, a, b, c) :: r) fall lv (.ref k :: st) m Q := X_brn (x := (pc, .ifnull o, a, b, c)) rfl kk
theorem Y_nnull1 {o : Int} {t k : Nat} {code : List XI} {fl : Nat} (ht : ((pc : Int) + o).toNat = t) (hb : xfind w.2.2.2.2.2 t = (code, fl)) (kk : Xr P d w code fl lv st m Q) : Xr P d w ((pc, .ifnonnull o, a, b, c) :: r) fall lv (.ref k :: st) m Q := X_brt (x := (pc, .ifnonnull o, a, b, c)) (t := t) (by show some (some ((pc : Int) + o).toNat, st) = _; rw [ht]) hb kk
theorem Y_nnull0 {o : Int} (kk : Xr P d w r fall lv st m Q) : Xr P d w ((pc, .ifnonnull o, a, b, c) :: r) fall lv (.null :: st) m Q := X_brn (x := (pc, .ifnonnull o, a, b, c)) rfl kk
theorem Y_tab {df lo hi : Int} {os : Array Int} {x : Int32} {o : Int} {t : Nat} {code : List XI} {fl : Nat} (hx : ¬ (x.toInt < lo ∨ hi < x.toInt)) (ho : os[(x.toInt - lo).toNat]? = some o) (hp : 0 ≤ (pc : Int) + o) (ht : ((pc : Int) + o).toNat = t) (hb : xfind w.2.2.2.2.2 t = (code, fl)) (kk : Xr P d w code fl lv st m Q) : Xr P d w ((pc, .tableswitch df lo hi os, a, b, c) :: r) fall lv (.int x :: st) m Q := X_brt (x := (pc, .tableswitch df lo hi os, a, b, c)) (t := t) (by unfold xbr; dsimp only; rw [if_neg hx, ho]; dsimp only; rw [if_pos hp, ht]) hb kk
theorem Y_tabd {df lo hi : Int} {os : Array Int} {x : Int32} {t : Nat} {code : List XI} {fl : Nat} (hx : x.toInt < lo ∨ hi < x.toInt) (hp : 0 ≤ (pc : Int) + df) (ht : ((pc : Int) + df).toNat = t) (hb : xfind w.2.2.2.2.2 t = (code, fl)) (kk : Xr P d w code fl lv st m Q) : Xr P d w ((pc, .tableswitch df lo hi os, a, b, c) :: r) fall lv (.int x :: st) m Q := X_brt (x := (pc, .tableswitch df lo hi os, a, b, c)) (t := t) (by unfold xbr; dsimp only; rw [if_pos hx, if_pos hp, ht]) hb kk
-- calls
theorem Y_callV {row : XRow} {i n k : Nat} {st av rest : List Value} {code : List XI} {fl : Nat} (hrow : P a (b / 64) = row) (hn : b % 64 = n) (hst : st.drop n = .ref k :: rest) (hav0 : (st.take n).reverse = av) (h : xat S k a) (ha : a < 22) (hc : Nat.blt 8 (xcats rest) = false) (hav : Nat.ble (xcats (.ref k :: av)) row.2.2.2.1 = true) (hb : xfind row.2.2.2.2.2 0 = (code, fl)) {lv0 : List (Nat × Value)} (hlv : lv_args 0 (.ref k :: av) = lv0)
    (kk : Xr P d row code fl lv0 [] (I, L, Rr, S) (fun v m' => Xr P (d + 1) w r fall lv (v.toList ++ rest) m' Q)) : Xr P (d + 1) w ((pc, .invokevirtual i, a, b, c) :: r) fall lv st (I, L, Rr, S) Q := by
  subst hrow; subst hn; subst hav0; subst hlv
  refine X_call (x := (pc, .invokevirtual i, a, b, c)) (row := P a (b / 64)) (av := .ref k :: (st.take (b % 64)).reverse) (rest := rest) ?_ hav hb kk
  unfold xcall
  dsimp only
  rw [hst]
  exact if_pos ⟨h, ha, hc⟩
theorem Y_callI {row : XRow} {i n k : Nat} {st av rest : List Value} {code : List XI} {fl : Nat} (hrow : P a (b / 64) = row) (hn : b % 64 = n) (hst : st.drop n = .ref k :: rest) (hav0 : (st.take n).reverse = av) (ha : a < 22) (hc : Nat.blt 8 (xcats rest) = false) (hav : Nat.ble (xcats (.ref k :: av)) row.2.2.2.1 = true) (hb : xfind row.2.2.2.2.2 0 = (code, fl)) {lv0 : List (Nat × Value)} (hlv : lv_args 0 (.ref k :: av) = lv0)
    (kk : Xr P d row code fl lv0 [] m (fun v m' => Xr P (d + 1) w r fall lv (v.toList ++ rest) m' Q)) : Xr P (d + 1) w ((pc, .invokespecial i, a, b, c) :: r) fall lv st m Q := by
  subst hrow; subst hn; subst hav0; subst hlv
  refine X_call (x := (pc, .invokespecial i, a, b, c)) (row := P a (b / 64)) (av := .ref k :: (st.take (b % 64)).reverse) (rest := rest) ?_ hav hb kk
  unfold xcall
  dsimp only
  rw [hst]
  exact if_pos ⟨ha, hc⟩
theorem Y_callS {row : XRow} {i n : Nat} {st av rest : List Value} {code : List XI} {fl : Nat} (hrow : P a (b / 64) = row) (hn : b % 64 = n) (hst : st.drop n = rest) (hav0 : (st.take n).reverse = av) (ha : a < 22) (hl : Nat.ble n st.length = true) (hc : Nat.blt 8 (xcats rest) = false) (hav : Nat.ble (xcats av) row.2.2.2.1 = true) (hb : xfind row.2.2.2.2.2 0 = (code, fl)) {lv0 : List (Nat × Value)} (hlv : lv_args 0 av = lv0)
    (kk : Xr P d row code fl lv0 [] m (fun v m' => Xr P (d + 1) w r fall lv (v.toList ++ rest) m' Q)) : Xr P (d + 1) w ((pc, .invokestatic i, a, b, c) :: r) fall lv st m Q := by
  subst hrow; subst hn; subst hav0; subst hlv; subst hst
  refine X_call (x := (pc, .invokestatic i, a, b, c)) (row := P a (b / 64)) (av := (st.take (b % 64)).reverse) (rest := st.drop (b % 64)) ?_ hav hb kk
  unfold xcall
  dsimp only
  exact if_pos ⟨ha, hl, hc⟩
end XRV
