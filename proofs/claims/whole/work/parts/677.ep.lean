/-! SHEETS: a drawing without sheets -/
theorem jE_0 {d : JdS} (hg : jGd d) (h : dns d = 0) : dnl d = 0 ∧ dnt d = 0 := by
  obtain ⟨-, -, -, -, hl, -, ht⟩ := hg
  constructor
  · rcases Nat.eq_zero_or_pos (dnl d) with q | q
    · exact q
    · have z := (hl 0 q).1
      omega
  · rcases Nat.eq_zero_or_pos (dnt d) with q | q
    · exact q
    · have z := (ht 0 q).1
      omega
theorem jE_n {d : JdS} (hg : jGd d) (h : dns d = 0) : zct (jFst d) 960 = 0 := by
  have z := (jE_0 hg h).2
  exact zct_no (fun c q => by
    have w := q.1.1
    omega) 960
theorem jE_m {d : JdS} {n : Int} (hg : jGd d) (h : dns d = 0) : jNmI d n = -1000 := by
  unfold jNmI
  rw [jE_n hg h]
  exact if_neg (by omega)
theorem jE_r {d : JdS} {k : Int} (hg : jGd d) (h : dns d = 0) : jRm d k = -1 := by
  unfold jRm
  rw [jE_n hg h, (jE_0 hg h).1]
  by_cases q : k < 0
  · exact if_pos q
  · rw [if_neg q]
    have e : zct (jRk d) (1000 * 0) = 0 := rfl
    have e2 : ∀ k, zkth (jBare d) 0 k = -1 := fun k => rfl
    rw [e, if_neg (by omega), e2]
    exact if_pos rfl
def pgV (w : List Int) (i : Int) : Int := if 0 ≤ i ∧ i < w.length then wAt w i.toNat else -1
theorem wOt_p {w : List Int} {O : OoS} {i : Int} (hn : ocn O ≠ 0) (hi : 0 ≤ i) : wOt w (wTh O i) i = pgV w i := by
  have e : wTh O i = 0 := (if_neg (by omega)).trans (if_neg hn)
  unfold wOt pgV
  rw [e, if_neg (by decide)]
  by_cases q : i < w.length
  · rw [if_pos q, if_pos ⟨hi, q⟩]
  · rw [if_neg q, if_neg (fun z => q z.2)]
