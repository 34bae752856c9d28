/-! gf: SCRIPTS: the class's run against the reference's machine: acts and closings -/
section
variable {M : WkM} {d cl i j : Nat} {s s' : WkS}
theorem mVo_h {o : OrT} {x : MsT} (h : o.1 = 8 ∨ o.1 = 10 ∨ o.1 = 11) (hl : 1 ≤ x.2.2.2.2.2.2.2.length) : mVo o x := ⟨by omega, fun q => by omega, fun q => by omega, fun q => by omega, fun _ => hl, fun q => by omega⟩
theorem mVo_7 {o : OrT} {x : MsT} (h : o.1 = 7 ∨ o.1 = 9) (hl : x.2.2.2.2.2.2.2.length ≤ 14) : mVo o x := ⟨by omega, fun q => by omega, fun q => by omega, fun _ => hl, fun q => by omega, fun q => by omega⟩
theorem hd_le {h : HdT} {hs : List HdT} (hd : hs.length ≤ d) : (h :: hs).length ≤ d + 1 := Nat.succ_le_succ hd
theorem hd_1 {h : HdT} {hs : List HdT} : 1 ≤ (h :: hs).length := Nat.succ_le_succ (Nat.zero_le _)
/-- the facts as they were, where an act failed -/
def wkB (s s1 : WkS) : WkS := wkE s1 (evRs s1.1.1 s.1.1.2.1 s.1.1.2.2.1)
def wkAc (s s1 : WkS) : WkS := if s1.2.2.2.1 ≠ 0 ∧ s1.2.2.1 = 0 then wkB s s1 else s1
theorem wkZ_act {j1 : Nat} {s1 : WkS} (hg : wkGo s) (h : (M.1 i).1 = 7) (hi : i ≤ M.2.2.2) (hd : d ≤ 14) (hl : s.2.1 < M.2.2.1) (hB : wkZ M (d + 1) cl (i + 1) (wkSp s) j1 s1) (hr : (M.1 j1).1 = 8) (hj : j1 ≤ M.2.2.2) : wkZ M d cl i s (j1 + 1) (wkAc s s1) := fun bk hs hh => by
  have w := itC_1 (wkC_1 hi (mVo_7 (x := wkX s (i : Int) cl bk hs) (Or.inl h) (Nat.le_trans hh hd))) (wkS_y (M := M) (cl := cl) (bk := bk) (hs := hs) (s := s) (i := i) (by unfold wkO; omega) hl)
  have e : mAc i (M.1 i) M.2.1 (wkX (wkSp s) ((i + 1 : Nat) : Int) cl bk hs) = wkX (wkSp s) ((i + 1 : Nat) : Int) cl bk ((7, cl, 0, 0, 0, 0, s.1.1.2.1, s.1.1.2.2.1) :: hs) := mAw_7 h
  rw [e] at w
  obtain ⟨bk1, e1, q1⟩ := hB bk ((7, cl, 0, 0, 0, 0, s.1.1.2.1, s.1.1.2.2.1) :: hs) (hd_le hh)
  refine ⟨bk1, e1, ?_⟩
  unfold wkAc
  rcases q1 with q1 | ⟨a, b, nx, c2, q2⟩ | ⟨a, y, q2, r⟩
  · rw [if_neg (fun q => q.1 (by rw [q1.1.2]))]
    exact Or.inl ⟨q1.1, itC_t w (itC_t q1.2 (itC_1 (wkC_1 hj (mVo_h (Or.inl hr) hd_1)) (mSt_8 (x := wkX s1 (j1 : Int) cl bk1 ((7, cl, 0, 0, 0, 0, s.1.1.2.1, s.1.1.2.2.1) :: hs)) (show ¬ (0 : Nat) = 1 by decide) wkX_n hr)))⟩
  · rw [if_pos ⟨b, a⟩]
    have e2 := mRa_7 (s := s1) (k := s1.2.2.2.1) (p := s1.2.2.2.2.1) (v := s1.2.2.2.2.2) (nx := nx) (c2 := c2) (n := s.1.1.2.1) (bk := bk1) (hs := hs) (a := 0) (f := s.1.1.2.2.1) (q := (0, 0, 0)) (cl := cl)
    rw [e2] at q2
    exact Or.inr (Or.inl ⟨a, b, nx, cl, itC_t w q2⟩)
  · rw [if_neg (fun q => by omega)]
    exact Or.inr (Or.inr ⟨a, y, itC_t w q2, r⟩)
/-- an error kept aside -/
def wkCl (s : WkS) : WkS := wkF s 0 (-1) 0
def wkTr (s1 s2 : WkS) : WkS := if s2.2.2.2.1 = 0 then wkF s2 s1.2.2.2.1 s1.2.2.2.2.1 s1.2.2.2.2.2 else s2
theorem wkCl_go {s : WkS} (h : s.2.2.1 = 0) : wkGo (wkCl s) := ⟨h, rfl⟩
theorem wkTr_go {s1 s2 : WkS} (h1 : wkGo s1) (h2 : wkGo s2) : wkTr s1 s2 = s2 := by
  unfold wkTr wkF
  rw [if_pos (by rw [h2.2]), h1.2]
  show (s2.1, s2.2.1, s2.2.2.1, ((0, -1, 0) : Int × Int × Int)) = s2
  rw [← h2.2]
theorem wkX_cl {ni : Int} {bk : Nat → Int} {hs : List HdT} : wkX (wkCl s) ni cl bk hs = wkX s ni cl bk hs := rfl
/-- from the second block's beginning on -/
theorem wkZ_end {j1 j2 : Nat} {s1 s2 : WkS} {a : Int} {n : Nat} {f : Nat → Int} {k p v : Int} {bk0 : Nat → Int} {hs : List HdT} (hh : hs.length ≤ d) (hk1 : k = s1.2.2.2.1 ∧ (k ≠ 0 → p = s1.2.2.2.2.1 ∧ v = s1.2.2.2.2.2)) (hk0 : k = 0 → wkGo s1) (hZ : wkZ M (d + 1) cl (j1 + 1) (wkCl s1) j2 s2) (hc : (M.1 j1).1 = 10) (hj1 : j1 ≤ M.2.2.2) (hr : (M.1 j2).1 = 11) (hj : j2 ≤ M.2.2.2) {h9 : Int} : ∃ bk' : Nat → Int, (∀ q, q < cl → bk' q = bk0 q) ∧ ((wkGo (wkTr s1 s2) ∧ wkI M (wkX s1 j1 cl bk0 ((h9, cl, a, k, p, v, n, f) :: hs)) (wkX (wkTr s1 s2) ((j2 + 1 : Nat) : Int) cl bk' hs)) ∨ ((wkTr s1 s2).2.2.1 = 0 ∧ (wkTr s1 s2).2.2.2.1 ≠ 0 ∧ ∃ (nx : Int) (c2 : Nat), wkI M (wkX s1 j1 cl bk0 ((h9, cl, a, k, p, v, n, f) :: hs)) (mRa (wkTr s1 s2).2.2.2.1 (wkTr s1 s2).2.2.2.2.1 (wkTr s1 s2).2.2.2.2.2 (wkX (wkTr s1 s2) nx c2 bk' hs))) ∨ ((wkTr s1 s2).2.2.1 = 1 ∧ ∃ y : MsT, wkI M (wkX s1 j1 cl bk0 ((h9, cl, a, k, p, v, n, f) :: hs)) y ∧ y.1 = (wkTr s1 s2).1 ∧ y.2.1 = (wkTr s1 s2).2.1 ∧ y.2.2.1 = (1, 2) ∧ y.2.2.2.1 = (0, -1, 0))) := by
  have w0 : wkI M (wkX s1 j1 cl bk0 ((h9, cl, a, k, p, v, n, f) :: hs)) (wkX (wkCl s1) ((j1 + 1 : Nat) : Int) cl bk0 ((10, cl, a, k, p, v, n, f) :: hs)) := itC_1 (wkC_1 hj1 (mVo_h (Or.inr (Or.inl hc)) hd_1)) (mSt_10 (x := wkX s1 (j1 : Int) cl bk0 ((h9, cl, a, k, p, v, n, f) :: hs)) (show ¬ (0 : Nat) = 1 by decide) wkX_n hc hd_1)
  obtain ⟨bk1, e1, q1⟩ := hZ bk0 ((10, cl, a, k, p, v, n, f) :: hs) (hd_le hh)
  refine ⟨bk1, e1, ?_⟩
  rcases q1 with q1 | ⟨b1, b2, nx, c2, q2⟩ | ⟨b1, y, q2, r⟩
  · have st := mSt_11 (R := M.1) (u := M.2.1) (lim := M.2.2.1) (x := wkX s2 (j2 : Int) cl bk1 ((10, cl, a, k, p, v, n, f) :: hs)) (show ¬ (0 : Nat) = 1 by decide) wkX_n hr hd_1
    have cc : wkC M (wkX s2 (j2 : Int) cl bk1 ((10, cl, a, k, p, v, n, f) :: hs)) := wkC_1 hj (mVo_h (Or.inr (Or.inr hr)) hd_1)
    have e2 : s2.2.2.2.1 = 0 := by rw [q1.1.2]
    by_cases hk : k = 0
    · rw [wkTr_go (hk0 hk) q1.1]
      exact Or.inl ⟨q1.1, itC_t w0 (itC_t q1.2 (itC_1 cc (st.trans (if_pos hk))))⟩
    · have e3 : wkTr s1 s2 = wkF s2 k p v := by
        unfold wkTr
        rw [if_pos e2, (hk1.2 hk).1, (hk1.2 hk).2, hk1.1]
      rw [e3]
      exact Or.inr (Or.inl ⟨q1.1.1, hk, ((j2 + 1 : Nat) : Int), cl, itC_t w0 (itC_t q1.2 (itC_1 cc (st.trans (if_neg hk))))⟩)
  · have e3 : wkTr s1 s2 = s2 := if_neg b2
    rw [e3]
    have e2 := mRa_10 (s := s2) (k := s2.2.2.2.1) (p := s2.2.2.2.2.1) (v := s2.2.2.2.2.2) (nx := nx) (c2 := c2) (n := n) (bk := bk1) (hs := hs) (a := a) (f := f) (q := (k, p, v)) (cl := cl)
    rw [e2] at q2
    exact Or.inr (Or.inl ⟨b1, b2, nx, cl, itC_t w0 q2⟩)
  · have e3 : (wkTr s1 s2).2.2.1 = s2.2.2.1 ∧ (wkTr s1 s2).1 = s2.1 ∧ (wkTr s1 s2).2.1 = s2.2.1 := by
      unfold wkTr
      by_cases q : s2.2.2.2.1 = 0
      · rw [if_pos q]; exact ⟨rfl, rfl, rfl⟩
      · rw [if_neg q]; exact ⟨rfl, rfl, rfl⟩
    exact Or.inr (Or.inr ⟨e3.1.trans b1, y, itC_t w0 q2, r.1.trans e3.2.1.symm, r.2.1.trans e3.2.2.symm, r.2.2⟩)
theorem wkZ_try {j1 j2 : Nat} {s1 s2 : WkS} (hg : wkGo s) (h : (M.1 i).1 = 9) (hi : i ≤ M.2.2.2) (ht : (M.1 i).2.2.2.2.2 = (j1 : Int)) (hd : d ≤ 14) (hl : s.2.1 < M.2.2.1) (hB : wkZ M (d + 1) cl (i + 1) (wkSp s) j1 s1) (hc : (M.1 j1).1 = 10) (hj1 : j1 ≤ M.2.2.2) (hZ : s1.2.2.1 = 0 → wkZ M (d + 1) cl (j1 + 1) (wkCl s1) j2 s2) (hS : s1.2.2.1 = 1 → s2 = wkCl s1) (hr : (M.1 j2).1 = 11) (hj : j2 ≤ M.2.2.2) : wkZ M d cl i s (j2 + 1) (wkTr s1 s2) := fun bk hs hh => by
  have w := itC_1 (wkC_1 hi (mVo_7 (x := wkX s (i : Int) cl bk hs) (Or.inr h) (Nat.le_trans hh hd))) (wkS_y (M := M) (cl := cl) (bk := bk) (hs := hs) (s := s) (i := i) (by unfold wkO; omega) hl)
  have e : mAc i (M.1 i) M.2.1 (wkX (wkSp s) ((i + 1 : Nat) : Int) cl bk hs) = wkX (wkSp s) ((i + 1 : Nat) : Int) cl bk ((9, cl, (j1 : Int), 0, 0, 0, s.1.1.2.1, s.1.1.2.2.1) :: hs) := by
    rw [mAw_9 h, ht]
    rfl
  rw [e] at w
  obtain ⟨bk1, e1, q1⟩ := hB bk ((9, cl, (j1 : Int), 0, 0, 0, s.1.1.2.1, s.1.1.2.2.1) :: hs) (hd_le hh)
  rcases q1 with q1 | ⟨a, b, nx, c2, q2⟩ | ⟨a, y, q2, r⟩
  · obtain ⟨bk2, e2, q3⟩ := wkZ_end (s1 := s1) (s2 := s2) (bk0 := bk1) (a := (j1 : Int)) (n := s.1.1.2.1) (f := s.1.1.2.2.1) (k := 0) (p := 0) (v := 0) (h9 := 9) hh ⟨by rw [q1.1.2], fun q => absurd rfl q⟩ (fun _ => q1.1) (hZ q1.1.1) hc hj1 hr hj
    have w2 : wkI M (wkX s i cl bk hs) (wkX s1 j1 cl bk1 ((9, cl, (j1 : Int), 0, 0, 0, s.1.1.2.1, s.1.1.2.2.1) :: hs)) := itC_t w q1.2
    refine ⟨bk2, fun q hq => (e2 q hq).trans (e1 q hq), ?_⟩
    rcases q3 with q3 | ⟨a3, b3, nx3, c3, q4⟩ | ⟨a3, y3, q4, r3⟩
    · exact Or.inl ⟨q3.1, itC_t w2 q3.2⟩
    · exact Or.inr (Or.inl ⟨a3, b3, nx3, c3, itC_t w2 q4⟩)
    · exact Or.inr (Or.inr ⟨a3, y3, itC_t w2 q4, r3⟩)
  · have e3 := mRa_9 (s := s1) (k := s1.2.2.2.1) (p := s1.2.2.2.2.1) (v := s1.2.2.2.2.2) (nx := nx) (c2 := c2) (n := s.1.1.2.1) (bk := bk1) (hs := hs) (a := (j1 : Int)) (f := s.1.1.2.2.1) (q := (0, 0, 0)) (cl := cl)
    rw [e3] at q2
    have w2 := itC_t w q2
    obtain ⟨bk2, e2, q3⟩ := wkZ_end (s1 := s1) (s2 := s2) (bk0 := bk1) (a := (j1 : Int)) (n := s.1.1.2.1) (f := s.1.1.2.2.1) (k := s1.2.2.2.1) (p := s1.2.2.2.2.1) (v := s1.2.2.2.2.2) (h9 := 10) hh ⟨rfl, fun _ => ⟨rfl, rfl⟩⟩ (fun q => absurd q b) (hZ a) hc hj1 hr hj
    refine ⟨bk2, fun q hq => (e2 q hq).trans (e1 q hq), ?_⟩
    rcases q3 with q3 | ⟨a3, b3, nx3, c3, q4⟩ | ⟨a3, y3, q4, r3⟩
    · exact Or.inl ⟨q3.1, itC_t w2 q3.2⟩
    · exact Or.inr (Or.inl ⟨a3, b3, nx3, c3, itC_t w2 q4⟩)
    · exact Or.inr (Or.inr ⟨a3, y3, itC_t w2 q4, r3⟩)
  · have e2 := hS a
    refine ⟨bk1, e1, Or.inr (Or.inr ⟨?_, y, itC_t w q2, ?_⟩)⟩
    · rw [e2]; unfold wkTr; rw [if_pos (show (wkCl s1).2.2.2.1 = 0 from rfl)]; exact a
    · rw [e2]; unfold wkTr; rw [if_pos (show (wkCl s1).2.2.2.1 = 0 from rfl)]; exact r
end
