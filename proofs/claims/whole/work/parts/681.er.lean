/-! SHEETS, the reference: the text taken letter by letter -/
theorem zRM_s {k : Nat} {w : List Int} {u : Int} {I : ZI} (h : zRM k (upF (tC w) w.length u) (w.length + 1) I) : zRM k (tC (w ++ [u])) (w ++ [u]).length I := by
  unfold zRM at h ⊢
  rw [wLn]
  refine ⟨h.1, fun p hp => ?_⟩
  rw [h.2 p hp]
  by_cases e : p = w.length
  · rw [e, tC_a (by rw [wLn]; omega), wAt_e]
    exact if_pos rfl
  · rw [tC_a (by rw [wLn]; omega), wAt_l (by omega)]
    exact (upF_ne e).trans (tC_a (by omega))
theorem zRM_0 {k : Nat} {c : Nat → Int} {I : ZI} (h : I k 3 = 0) : zRM k c 0 I := ⟨h, fun p hp => absurd hp (Nat.not_lt_zero p)⟩
theorem zRM_w {k : Nat} {w w' : List Int} {I : ZI} (h : zRM k (tC w) w.length I) (e : w = w') : zRM k (tC w') w'.length I := e ▸ h
