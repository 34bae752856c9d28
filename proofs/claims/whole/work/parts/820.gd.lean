/-! gd: SCRIPTS: the class's run: its state, what it means to the reference's machine -/
/-- the class's machine: data (demands as orders), steps taken, stopped, error -/
abbrev WkS : Type := DtT × Nat × Nat × (Int × Int × Int)
def wkSp (s : WkS) : WkS := (s.1, s.2.1 + 1, s.2.2)
def wkSt (s : WkS) : WkS := (s.1, s.2.1, 1, s.2.2.2)
def wkE (s : WkS) (E : EvE) : WkS := ((E, s.1.2), s.2)
def wkF (s : WkS) (k p v : Int) : WkS := (s.1, s.2.1, s.2.2.1, (k, p, v))
def wkGo (s : WkS) : Prop := s.2.2.1 = 0 ∧ s.2.2.2 = (0, -1, 0)
theorem wkGo_sp {s : WkS} (h : wkGo s) : wkGo (wkSp s) := h
theorem wkGo_E {s : WkS} {E : EvE} (h : wkGo s) : wkGo (wkE s E) := h
/-- as the reference's machine -/
def wkX (s : WkS) (ni : Int) (cl : Nat) (bk : Nat → Int) (hs : List HdT) : MsT := (s.1, s.2.1, (0, 0), (0, -1, 0), ni, cl, bk, hs)
def wkR (s : WkS) (ni : Int) (cl : Nat) (bk : Nat → Int) (hs : List HdT) : MsT := if s.2.2.2.1 = 0 then wkX s ni cl bk hs else mRa s.2.2.2.1 s.2.2.2.2.1 s.2.2.2.2.2 (wkX s ni cl bk hs)
/-- statements that act -/
def wk1 (s : WkS) (p : Int) (i : Nat) (l : CdL) : WkS := if evF s.1.1 l = 0 then wkE s (evSv s.1.1 i (evV s.1.1 l)) else wkF s (evF s.1.1 l : Nat) p 0
def wk2 (s : WkS) (p : Int) (d : Nat) (A B : CdL) : WkS := if apF s.1.1 A B s.1.1.2.1 = 0 then wkE s (evSf s.1.1 (6 * (evV s.1.1 A).toNat + d) (evV s.1.1 B)) else wkF s (apF s.1.1 A B s.1.1.2.1 : Nat) p 0
def wk3 (s : WkS) (p : Int) (A B : CdL) : WkS := if apF s.1.1 A B s.1.1.2.2.2.1 = 0 then wkE s (evSl s.1.1 (evV s.1.1 A).toNat (evV s.1.1 B)) else wkF s (apF s.1.1 A B s.1.1.2.2.2.1 : Nat) p 0
def wk4 (s : WkS) (p : Int) (l : CdL) : WkS := if evF s.1.1 l = 0 then (if s.1.2.1.1 < 40 then ((s.1.1, (s.1.2.1.1 + 1, upF s.1.2.1.2 s.1.2.1.1 (zn (evV s.1.1 l))), s.1.2.2), s.2) else s) else wkF s (evF s.1.1 l : Nat) p 0
def wk12 (s : WkS) (p : Int) (l : CdL) : WkS := if evF s.1.1 l = 0 then wkF s 4 p (zn (evV s.1.1 l)) else wkF s (evF s.1.1 l : Nat) p 0
def wk13 (s : WkS) (p : Int) (l : CdL) : WkS := if evF s.1.1 l = 0 then (if s.1.1.2.1 = 12 then wkF s 3 p 0 else wkE s (evNw s.1.1 (evV s.1.1 l))) else wkF s (evF s.1.1 l : Nat) p 0
def wk16 (s : WkS) (p : Int) (l : CdL) : WkS := if evF s.1.1 l = 0 then (if evV s.1.1 l < 0 ∨ 20 < evV s.1.1 l then wkF s 3 p 0 else wkE s (evLn s.1.1 (evV s.1.1 l).toNat)) else wkF s (evF s.1.1 l : Nat) p 0
def wk14 (s : WkS) (i : Nat) : WkS := if s.1.2.2.1 < 8 then ((s.1.1, s.1.2.1, (s.1.2.2.1 + 1, upF s.1.2.2.2 s.1.2.2.1 i)), s.2) else s
def wk15 (s : WkS) (p : Int) (l : CdL) : WkS := if (qrL l s.1.1.2.1 0 s.1.1).1 = 0 then wkE s (evSv (qrL l s.1.1.2.1 0 s.1.1).2 25 (s.1.1.1 25)) else wkF (wkE s (qrL l s.1.1.2.1 0 s.1.1).2) ((qrL l s.1.1.2.1 0 s.1.1).1 : Nat) p 0
theorem wkR_g {s : WkS} {ni : Int} {cl : Nat} {bk : Nat → Int} {hs : List HdT} (h : wkGo s) : wkR s ni cl bk hs = wkX s ni cl bk hs := if_pos (by rw [h.2])
theorem wkR_f {s : WkS} {k p v ni : Int} {cl : Nat} {bk : Nat → Int} {hs : List HdT} (h : k ≠ 0) : wkR (wkF s k p v) ni cl bk hs = mRa k p v (wkX s ni cl bk hs) := if_neg h
theorem wkN {f : Nat} (h : ¬ f = 0) : ((f : Nat) : Int) ≠ 0 := by omega
section
variable {s : WkS} {o : OrT} {u : Nat → Int} {i : Nat} {ni : Int} {cl : Nat} {bk : Nat → Int} {hs : List HdT}
theorem wkA_1 (hg : wkGo s) (h : o.1 = 1) : mAc i o u (wkX s ni cl bk hs) = wkR (wk1 s o.2.1 o.2.2.1.toNat o.2.2.2.2.1) ni cl bk hs := by
  rw [mAc_1 h]
  unfold wk1
  by_cases e : evF s.1.1 o.2.2.2.2.1 = 0
  · rw [if_pos e, wkR_g (wkGo_E hg)]
    exact if_pos e
  · rw [if_neg e, wkR_f (wkN e)]
    exact if_neg e
theorem wkA_2 (hg : wkGo s) (h : o.1 = 2) : mAc i o u (wkX s ni cl bk hs) = wkR (wk2 s o.2.1 o.2.2.1.toNat o.2.2.2.1 o.2.2.2.2.1) ni cl bk hs := by
  rw [mAc_2 h]
  show (if evF s.1.1 o.2.2.2.1 ≠ 0 then _ else _) = _
  unfold wk2
  by_cases e1 : evF s.1.1 o.2.2.2.1 ≠ 0
  · have e : apF s.1.1 o.2.2.2.1 o.2.2.2.2.1 s.1.1.2.1 = evF s.1.1 o.2.2.2.1 := if_pos e1
    rw [if_pos e1, e, if_neg e1, wkR_f (wkN e1)]
    rfl
  · rw [if_neg e1]
    by_cases e2 : ¬ (0 ≤ evV s.1.1 o.2.2.2.1 ∧ evV s.1.1 o.2.2.2.1 < (s.1.1.2.1 : Int))
    · have e : apF s.1.1 o.2.2.2.1 o.2.2.2.2.1 s.1.1.2.1 = 2 := (if_neg e1).trans (if_pos e2)
      rw [e]
      exact (if_pos e2).trans (wkR_f (show ((2 : Nat) : Int) ≠ 0 by decide)).symm
    · have e : apF s.1.1 o.2.2.2.1 o.2.2.2.2.1 s.1.1.2.1 = evF s.1.1 o.2.2.2.2.1 := (if_neg e1).trans (if_neg e2)
      refine (if_neg e2).trans ?_
      rw [e]
      by_cases e3 : evF s.1.1 o.2.2.2.2.1 = 0
      · rw [if_pos e3, wkR_g (wkGo_E hg)]
        exact if_neg (fun q => q e3)
      · rw [if_neg e3, wkR_f (wkN e3)]
        exact if_pos e3
theorem wkA_3 (hg : wkGo s) (h : o.1 = 3) : mAc i o u (wkX s ni cl bk hs) = wkR (wk3 s o.2.1 o.2.2.2.1 o.2.2.2.2.1) ni cl bk hs := by
  rw [mAc_3 h]
  show (if evF s.1.1 o.2.2.2.1 ≠ 0 then _ else _) = _
  unfold wk3
  by_cases e1 : evF s.1.1 o.2.2.2.1 ≠ 0
  · have e : apF s.1.1 o.2.2.2.1 o.2.2.2.2.1 s.1.1.2.2.2.1 = evF s.1.1 o.2.2.2.1 := if_pos e1
    rw [if_pos e1, e, if_neg e1, wkR_f (wkN e1)]
    rfl
  · rw [if_neg e1]
    by_cases e2 : ¬ (0 ≤ evV s.1.1 o.2.2.2.1 ∧ evV s.1.1 o.2.2.2.1 < (s.1.1.2.2.2.1 : Int))
    · have e : apF s.1.1 o.2.2.2.1 o.2.2.2.2.1 s.1.1.2.2.2.1 = 2 := (if_neg e1).trans (if_pos e2)
      rw [e]
      exact (if_pos e2).trans (wkR_f (show ((2 : Nat) : Int) ≠ 0 by decide)).symm
    · have e : apF s.1.1 o.2.2.2.1 o.2.2.2.2.1 s.1.1.2.2.2.1 = evF s.1.1 o.2.2.2.2.1 := (if_neg e1).trans (if_neg e2)
      refine (if_neg e2).trans ?_
      rw [e]
      by_cases e3 : evF s.1.1 o.2.2.2.2.1 = 0
      · rw [if_pos e3, wkR_g (wkGo_E hg)]
        exact if_neg (fun q => q e3)
      · rw [if_neg e3, wkR_f (wkN e3)]
        exact if_pos e3
theorem wkA_4 (hg : wkGo s) (h : o.1 = 4) : mAc i o u (wkX s ni cl bk hs) = wkR (wk4 s o.2.1 o.2.2.2.2.1) ni cl bk hs := by
  rw [mAw_4 h]
  show (if evF s.1.1 o.2.2.2.2.1 ≠ 0 then _ else _) = _
  unfold wk4
  by_cases e : evF s.1.1 o.2.2.2.2.1 = 0
  · rw [if_pos e, if_neg (fun q => q e)]
    by_cases e2 : s.1.2.1.1 < 40
    · rw [if_pos e2]
      exact (if_pos e2).trans (if_pos (show s.2.2.2.1 = 0 by rw [hg.2])).symm
    · rw [if_neg e2, wkR_g hg]
      exact if_neg e2
  · rw [if_neg e, if_pos e, wkR_f (wkN e)]
    rfl
theorem wkA_12 (hg : wkGo s) (h : o.1 = 12) : mAc i o u (wkX s ni cl bk hs) = wkR (wk12 s o.2.1 o.2.2.2.2.1) ni cl bk hs := by
  rw [mAw_12 h]
  show (if evF s.1.1 o.2.2.2.2.1 ≠ 0 then _ else _) = _
  unfold wk12
  by_cases e : evF s.1.1 o.2.2.2.2.1 = 0
  · rw [if_pos e, if_neg (fun q => q e), wkR_f (show (4 : Int) ≠ 0 by decide)]
    rfl
  · rw [if_neg e, if_pos e, wkR_f (wkN e)]
    rfl
theorem wkA_13 (hg : wkGo s) (h : o.1 = 13) : mAc i o u (wkX s ni cl bk hs) = wkR (wk13 s o.2.1 o.2.2.2.2.1) ni cl bk hs := by
  rw [mAw_13 h]
  show (if evF s.1.1 o.2.2.2.2.1 ≠ 0 then _ else _) = _
  unfold wk13
  by_cases e : evF s.1.1 o.2.2.2.2.1 = 0
  · rw [if_pos e, if_neg (fun q => q e)]
    by_cases e2 : s.1.1.2.1 = 12
    · rw [if_pos e2, wkR_f (show (3 : Int) ≠ 0 by decide)]
      exact if_pos e2
    · rw [if_neg e2, wkR_g (wkGo_E hg)]
      exact if_neg e2
  · rw [if_neg e, if_pos e, wkR_f (wkN e)]
    rfl
theorem wkA_16 (hg : wkGo s) (h : o.1 = 16) : mAc i o u (wkX s ni cl bk hs) = wkR (wk16 s o.2.1 o.2.2.2.2.1) ni cl bk hs := by
  rw [mAw_16 h]
  show (if evF s.1.1 o.2.2.2.2.1 ≠ 0 then _ else _) = _
  unfold wk16
  by_cases e : evF s.1.1 o.2.2.2.2.1 = 0
  · rw [if_pos e, if_neg (fun q => q e)]
    by_cases e2 : evV s.1.1 o.2.2.2.2.1 < 0 ∨ 20 < evV s.1.1 o.2.2.2.2.1
    · rw [if_pos e2, wkR_f (show (3 : Int) ≠ 0 by decide)]
      exact if_pos e2
    · rw [if_neg e2, wkR_g (wkGo_E hg)]
      exact if_neg e2
  · rw [if_neg e, if_pos e, wkR_f (wkN e)]
    rfl
theorem wkA_14 (hg : wkGo s) (h : o.1 = 14) : mAc i o u (wkX s ni cl bk hs) = wkR (wk14 s i) ni cl bk hs := by
  rw [mAc_r h]
  show (if s.1.2.2.1 < 8 then _ else _) = _
  unfold wk14
  by_cases e : s.1.2.2.1 < 8
  · rw [if_pos e, if_pos e]
    exact (if_pos (show s.2.2.2.1 = 0 by rw [hg.2])).symm
  · rw [if_neg e, if_neg e, wkR_g hg]
theorem wkA_15 (hg : wkGo s) (h : o.1 = 15) : mAc i o u (wkX s ni cl bk hs) = wkR (wk15 s o.2.1 o.2.2.2.2.1) ni cl bk hs := by
  rw [mAc_q h]
  show (if (qrL o.2.2.2.2.1 s.1.1.2.1 0 s.1.1).1 = 0 then _ else _) = _
  unfold wk15
  by_cases e : (qrL o.2.2.2.2.1 s.1.1.2.1 0 s.1.1).1 = 0
  · rw [if_pos e, if_pos e, wkR_g (wkGo_E hg)]
    rfl
  · rw [if_neg e, if_neg e, wkR_f (wkN e)]
    rfl
end
