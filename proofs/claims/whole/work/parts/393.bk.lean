/-! BOARDS kept good: a cell barred, costs set -/
theorem bGd_bar {s : BdS} {c : Nat} (h : bGd s) (hh : bho s c = -1) : bGd (bBar s c) := by
  obtain ⟨g1, g2, gc, gp, gn, gco, gnd, gun⟩ := h
  refine ⟨g1, g2, fun c' hc => ?_, gp, gn, gco, gnd, gun⟩
  obtain ⟨a1, a2, a3, a4, a5, a6, a7, a8⟩ := gc c' hc
  refine ⟨?_, ?_, a3, a4, a5, a6, a7, a8⟩
  · show upF (bba s) c 1 c' ≤ 1
    by_cases e : c' = c
    · rw [e, upF_at]; exact Nat.le_refl 1
    · rw [upF_ne e]; exact a1
  · intro q
    show bho s c' = -1
    have q' : upF (bba s) c 1 c' = 1 := q
    by_cases e : c' = c
    · rw [e]; exact hh
    · rw [upF_ne e] at q'
      exact a2 q'
def bCst (s : BdS) (l a v n : Nat) : BdS := bs_co s (fun k q => if q = l then (if k = 0 then a else if k = 1 then v else n) else bco s k q)
theorem bGd_cst {s : BdS} {l a v n : Nat} (h : bGd s) (ha : a ≤ 50) (hv : v ≤ 50) (hn : n ≤ 50) : bGd (bCst s l a v n) := by
  obtain ⟨g1, g2, gc, gp, gn, gco, gnd, gun⟩ := h
  refine ⟨g1, g2, gc, gp, gn, fun k q hk hq => ?_, gnd, gun⟩
  show (if q = l then (if k = 0 then a else if k = 1 then v else n) else bco s k q) ≤ 50
  split
  · split
    · exact ha
    · split
      · exact hv
      · exact hn
  · exact gco k q hk hq
