/-! cells that are written, cells that are made -/
def xSame (k : Nat) (m m' : XM) : Prop := m'.2.2.2 = m.2.2.2 ∧ ∀ a, a ≠ k → ∀ j, m'.1 a j = m.1 a j ∧ m'.2.1 a j = m.2.1 a j ∧ m'.2.2.1 a j = m.2.2.1 a j
theorem xval_same {k : Nat} {m m' : XM} (h : xSame k m m') {a : Nat} (ha : a ≠ k) (kd j : Nat) : xval m' kd a j = xval m kd a j := by
  obtain ⟨h1, h2, h3⟩ := h.2 a ha j
  unfold xval
  split <;> simp only [h1, h2, h3]
theorem xel_same {E : XE} {k : Nat} {m m' : XM} (h : xSame k m m') {a : Nat} (ha : a ≠ k) (j : Nat) : xel E m' a j = xel E m a j := by
  unfold xel
  rw [xval_same h ha, show xsh m' = xsh m from congrArg (fun q => q.1) h.1]
theorem xu_ne {α : Type} {f : Nat → Nat → α} {k j : Nat} {v : α} {a b : Nat} (h : a ≠ k) : xu f k j v a b = f a b := by
  unfold xu; rw [if_neg h]
theorem xSame_I (m : XM) (k j : Nat) (v : Int32) : xSame k m (xwI m k j v) := ⟨rfl, fun a ha b => ⟨xu_ne ha, rfl, rfl⟩⟩
theorem xSame_L (m : XM) (k j : Nat) (v : Int64) : xSame k m (xwL m k j v) := ⟨rfl, fun a ha b => ⟨rfl, xu_ne ha, rfl⟩⟩
theorem xSame_R (m : XM) (k j : Nat) (v : Option Nat) : xSame k m (xwR m k j v) := ⟨rfl, fun a ha b => ⟨rfl, rfl, xu_ne ha⟩⟩
theorem xad_ne {E : XE} (hA : xEad E) {a k : Nat} (hk : x0 ≤ k) (h : a ≠ k) : xad E a ≠ xad E k := by
  intro q
  by_cases ha : a < x0
  · have h1 := hA.1 a ha
    rw [q, hA.2 k hk] at h1
    omega
  · rw [hA.2 k hk, hA.2 a (by omega)] at q
    omega
theorem xcell_kept {E : XE} {m m' : XM} {H H' : Heap} {a : Nat} (hsh : xsh m' a = xsh m a) (hv : ∀ j, xel E m' a j = xel E m a j) (hH : H'[xad E a]? = H[xad E a]?) (h : xcell E m a H) : xcell E m' a H' := by
  unfold xcell at h ⊢
  rw [hsh]
  split at h
  · next ht => rw [if_pos ht]; exact ⟨h.1, (h.2.kept hH).to fun j _ => (hv j).symm⟩
  · next ht =>
    rw [if_neg ht, hH, h]
    congr 2
    funext j
    exact (hv j).symm
theorem xRep_set {E : XE} {m m' : XM} {H H' : Heap} {k : Nat} (hR : xRep E m H) (hA : xEad E) (hk : x0 ≤ k) (hs : xSame k m m') (hz : H'.size = H.size) (ho : ∀ q, q ≠ xad E k → H'[q]? = H[q]?) (hc : xcell E m' k H') : xRep E m' H' := by
  have hsh : xsh m' = xsh m := congrArg (fun q => q.1) hs.1
  have hn : xn m' = xn m := congrArg (fun q => q.2.1) hs.1
  refine ⟨⟨by rw [hn]; exact hR.1.1, by rw [hn, hz]; exact hR.1.2⟩, fun a h1 h2 => ?_, fun a h1 h2 => ?_⟩
  · by_cases h : a = k
    · rw [h]; exact hc
    · exact xcell_kept (by rw [hsh]) (xel_same hs h) (ho _ (xad_ne hA hk h)) (hR.2.1 a h1 (by rw [← hn]; exact h2))
  · have h : a ≠ k := by omega
    rw [hsh] at h2 ⊢
    obtain ⟨g1, g2, g3, g4⟩ := hR.2.2 a h1 h2
    exact ⟨g1, by rw [ho _ (xad_ne hA hk h)]; exact g2, g3, fun j hj => by rw [xel_same hs h]; exact g4 j hj⟩
theorem xA_ad {E : XE} (hA : xEad E) {k : Nat} (hk : x0 ≤ k) : xA E (xad E k) := by
  unfold xA; rw [hA.2 k hk]; omega
theorem xKn_same {k : Nat} {m m' : XM} (h : xSame k m m') (hK : xKn m) : xKn m' := by
  have hsh : xsh m' = xsh m := congrArg (fun q => q.1) h.1
  have hn : xn m' = xn m := congrArg (fun q => q.2.1) h.1
  intro a h1 h2
  rw [hsh]
  exact hK a h1 (by rw [← hn]; exact h2)
theorem xel_set {E : XE} {m m' : XM} {k jj : Nat} {v : Value} (hs : xSame k m m') (h : ∀ j, xval m' (xkind (xsh m k).1 j) k j = if j = jj then v else xval m (xkind (xsh m k).1 j) k j) (j : Nat) : xel E m' k j = updV (fun j => xel E m k j) jj (xc E v) j := by
  unfold xel updV
  rw [show xsh m' = xsh m from congrArg (fun q => q.1) hs.1, h j]
  split
  · rfl
  · rfl
theorem xRep_arr {E : XE} {m m' : XM} {H H' : Heap} {k jj : Nat} {v : Value} (hR : xRep E m H) (hA : xEad E) (hk : x0 ≤ k) (ht : 100 ≤ (xsh m k).1) (hs : xSame k m m') (hz : H'.size = H.size) (ho : ∀ q, q ≠ xad E k → H'[q]? = H[q]?)
    (hv : ∀ j, xval m' (xkind (xsh m k).1 j) k j = if j = jj then v else xval m (xkind (xsh m k).1 j) k j)
    (hc : H'[xad E k]? = some ((arrV (E.2.1 (xsh m k).1) (xsh m k).2 (fun j => xel E m k j)).setSlot jj (xc E v))) : xRep E m' H' := by
  refine xRep_set hR hA hk hs hz ho ?_
  unfold xcell
  rw [show xsh m' = xsh m from congrArg (fun q => q.1) hs.1, if_neg (Nat.not_lt.mpr ht), hc, arrV_store]
  congr 2
  funext j
  exact (xel_set hs hv j).symm
theorem xu_at {α : Type} {f : Nat → Nat → α} {k j : Nat} {v : α} (b : Nat) : xu f k j v k b = if b = j then v else f k b := by
  unfold xu; rw [if_pos rfl]
theorem xval_I {m : XM} {k jj kd : Nat} {v : Int32} (h1 : kd ≠ 1) (h2 : kd ≠ 2) (j : Nat) : xval (xwI m k jj v) kd k j = if j = jj then .int v else xval m kd k j := by
  unfold xval
  split
  · exact absurd rfl h1
  · exact absurd rfl h2
  · show Value.int (xu m.1 k jj v k j) = _
    rw [xu_at]
    split <;> rfl
theorem xval_L {m : XM} {k jj : Nat} {v : Int64} (j : Nat) : xval (xwL m k jj v) 1 k j = if j = jj then .long v else xval m 1 k j := by
  show Value.long (xu m.2.1 k jj v k j) = _
  rw [xu_at]
  split <;> rfl
theorem xval_R {m : XM} {k jj : Nat} {v : Option Nat} (j : Nat) : xval (xwR m k jj v) 2 k j = if j = jj then va_rf v else xval m 2 k j := by
  show va_rf (xu m.2.2.1 k jj v k j) = _
  rw [xu_at]
  split <;> rfl
theorem xge {t u : Nat} (h : t = u) (h2 : 100 ≤ u) : 100 ≤ t := by omega
theorem xis130 {t u : Nat} (h : t = 110 + u) (hk : xoks t) : t = 130 := by
  unfold xoks at hk; omega
theorem xis20 {t u : Nat} (h : t = 110 + u) (h2 : t = 130) : u = 20 := by omega
section XWA
variable {p : Program} {l : Launch} {e : Env} {R : Room} {s : State} {mm : MethodId} {args : Array Value} {below : List Frame} {meth : Method} {c : Code} {H H0 : Heap} {locs : List Loc} {cells slots : Nat} {Q : State → Prop} {cc : ByteArray} {pc : Nat} {ls : Array Slot} {E : XE} {st st' : List Value} {i : Instr} {m m' : XM} {a b own : Nat}
theorem xnewcell {k : Nat} (hR : xRep E m H) (hk : x0 ≤ k ∧ k < xn m) (ht : 100 ≤ (xsh m k).1) : H[xad E k]? = some (arrV (E.2.1 (xsh m k).1) (xsh m k).2 (fun j => xel E m k j)) := by
  have h := hR.2.1 k hk.1 hk.2
  unfold xcell at h
  rw [if_neg (Nat.not_lt.mpr ht)] at h
  exact h
theorem xs7_ok (hx : p.tables.exec = Jvm.exec) (hb : c.code = cc) (hE : xEnv E s) (hR : xRep E m H) (hA : xEad E) (hK : xKn m) (hS : va_S (xA E) H0 H locs) (h : xs7 i st m = some (st', m')) (hd : decode cc pc = .ok (i, xlen i))
    (kk : ∀ (H1 : Heap) (locs1 : List Loc), xRep E m' H1 → xKn m' → m'.2.2.2 = m.2.2.2 → va_S (xA E) H0 H1 locs1 → W p l e R s mm args below meth c H1 locs1 cells slots Q (F0 mm (pc + xlen i) ls (xcs E st'))) : W p l e R s mm args below meth c H locs cells slots Q (F0 mm pc ls (xcs E st)) := by
  unfold xs7 at h
  split at h
  · split at h
    · split at h
      · next hk =>
        cases h
        have ht := xge hk.2.2.1 (by decide)
        have hc := xnewcell hR ⟨hk.1, hk.2.1⟩ ht
        refine W.iast hx hb hc (by have h9 := (xarrOf hE (Or.inl hk.2.2.1)).1; rw [hk.2.2.1] at h9 ⊢; exact h9 _ _) (fun q => by cases q) (by rw [arrV_size]; exact xin_v hk.2.2.2) rfl rfl hd fun H1 e1 z oq => ?_
        exact kk H1 _ (xRep_arr hR hA hk.1 ht (xSame_I _ _ _ _) z oq (v := .int _) (by rw [hk.2.2.1]; exact xval_I (by decide) (by decide)) e1) (xKn_same (xSame_I _ _ _ _) hK) rfl (hS.put z oq (xA_ad hA hk.1))
      · cases h
    · cases h
  · split at h
    · split at h
      · next hk =>
        cases h
        have ht := xge hk.2.2.1 (by decide)
        have hc := xnewcell hR ⟨hk.1, hk.2.1⟩ ht
        refine W.last hx hb hc (by have h9 := (xarrOf hE (Or.inr (Or.inl hk.2.2.1))).1; rw [hk.2.2.1] at h9 ⊢; exact h9 _ _) (fun q => by cases q) (by rw [arrV_size]; exact xin_v hk.2.2.2) rfl rfl hd fun H1 e1 z oq => ?_
        exact kk H1 _ (xRep_arr hR hA hk.1 ht (xSame_L _ _ _ _) z oq (v := .long _) (by rw [hk.2.2.1]; exact xval_L) e1) (xKn_same (xSame_L _ _ _ _) hK) rfl (hS.put z oq (xA_ad hA hk.1))
      · cases h
    · cases h
  · split at h
    · split at h
      · next hk =>
        split at h
        · next h2 =>
          cases h
          have ht := xge h2 (by decide)
          have hc := xnewcell hR ⟨hk.1, hk.2.1⟩ ht
          refine W.bast hx hb hc (by have h9 := (xarrOf hE (Or.inr (Or.inr (Or.inl h2)))).1; rw [h2] at h9 ⊢; exact h9 _ _) (fun q => by cases q) (by rw [arrV_size]; exact xin_v hk.2.2) rfl rfl hd fun H1 e1 z oq => ?_
          exact kk H1 _ (xRep_arr hR hA hk.1 ht (xSame_I _ _ _ _) z oq (v := .int _) (by rw [h2]; exact xval_I (by decide) (by decide)) e1) (xKn_same (xSame_I _ _ _ _) hK) rfl (hS.put z oq (xA_ad hA hk.1))
        · split at h
          · next h2 =>
            cases h
            have ht := xge h2 (by decide)
            have hc := xnewcell hR ⟨hk.1, hk.2.1⟩ ht
            refine W.zast hx hb hc (by have h9 := (xarrOf hE (Or.inr (Or.inr (Or.inr (Or.inl h2))))).1; rw [h2] at h9 ⊢; exact h9 _ _) (fun q => by cases q) (by rw [arrV_size]; exact xin_v hk.2.2) rfl rfl hd fun H1 e1 z oq => ?_
            exact kk H1 _ (xRep_arr hR hA hk.1 ht (xSame_I _ _ _ _) z oq (v := .int _) (by rw [h2]; exact xval_I (by decide) (by decide)) e1) (xKn_same (xSame_I _ _ _ _) hK) rfl (hS.put z oq (xA_ad hA hk.1))
          · cases h
      · cases h
    · cases h
  · split at h
    · split at h
      · next hk =>
        cases h
        have ht := xge hk.2.2.1 (by decide)
        have hc := xnewcell hR ⟨hk.1, hk.2.1⟩ ht
        refine W.cast hx hb hc (by have h9 := (xarrOf hE (Or.inr (Or.inr (Or.inr (Or.inr (Or.inl hk.2.2.1)))))).1; rw [hk.2.2.1] at h9 ⊢; exact h9 _ _) (fun q => by cases q) (by rw [arrV_size]; exact xin_v hk.2.2.2) rfl rfl hd fun H1 e1 z oq => ?_
        exact kk H1 _ (xRep_arr hR hA hk.1 ht (xSame_I _ _ _ _) z oq (v := .int _) (by rw [hk.2.2.1]; exact xval_I (by decide) (by decide)) e1) (xKn_same (xSame_I _ _ _ _) hK) rfl (hS.put z oq (xA_ad hA hk.1))
      · cases h
    · cases h
  · split at h
    · split at h
      · next hk =>
        cases h
        have ht := xge hk.2.2.2.2.2.1 (by omega)
        have hc := xnewcell hR ⟨hk.1, hk.2.1⟩ ht
        have hq := hR.2.1 _ hk.2.2.1 hk.2.2.2.1
        unfold xcell at hq
        rw [if_pos hk.2.2.2.2.1] at hq
        obtain ⟨cellV, g1, g2, g3, -⟩ := hq.2
        have hko := (hK _ hk.1 hk.2.1).resolve_left (by omega)
        have h130 := xis130 hk.2.2.2.2.2.1 hko
        obtain ⟨h8, kA, comp, k1, k2, k3, -⟩ := xarrOf hE (t := 130) (by simp)
        have hq20 := xis20 hk.2.2.2.2.2.1 h130
        have hcl : ∃ C, vwCl[20]? = some (C, xTb 20, xnf 20) ∧ xcn 20 = C := ⟨_, rfl, rfl⟩
        obtain ⟨C, c1, c2⟩ := hcl
        have hcls := (hE.1.1 20 _ c1).2
        have hcomp : comp = E.1.1 20 := Option.some.inj (k3.symm.trans (by rw [show (130 : Nat) - 110 = 20 from rfl, c2]; exact hcls.1))
        subst hcomp
        obtain ⟨kC, hkC, -⟩ := hcls.2
        refine W.aast hx hb hc (fun q h => by cases h) (fun h => by cases h) (by rw [h130]; exact k1) k2 rfl hkC ⟨(xin_ok hk.2.2.2.2.2.2).1, by rw [arrV_size]; exact (xin_ok hk.2.2.2.2.2.2).2⟩ g1 (fun q h => by rw [g3] at h; cases h) (by rw [g2, hq20]; exact hkC) (by rw [g2, hq20]; exact va_assign hcls) rfl rfl hd fun H1 e1 z oq => ?_
        exact kk H1 _ (xRep_arr hR hA hk.1 ht (xSame_R _ _ _ _) z oq (v := .ref _) (by rw [h130]; exact xval_R) e1) (xKn_same (xSame_R _ _ _ _) hK) rfl (hS.put z oq (xA_ad hA hk.1))
      · cases h
    · cases h
  · cases h
end XWA
