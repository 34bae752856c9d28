/-- a number field, by sign and kind -/
theorem wF1_n {O : OoS} {j a i : Nat} (h : ¬ tFc a i = 86) (h2 : ¬ tFc a i = 84) : wF1 O j a i = wNb (onm O j (tNc a i)) (tLen (tFc a i)) := (if_neg h).trans (if_neg h2)
theorem wNb_3 {v c : Int} (h : v < 0) (hc : c = 78) : wNb v (tLen c) = [45] ++ (wWh (wAb v / 1000000) ++ wFr (wAb v % 1000000)) := by
  have e : tLen c = 1 := if_pos hc
  rw [e]
  unfold wNb
  rw [if_pos h, if_pos rfl]
theorem wNb_4 {v c : Int} (h : ¬ v < 0) (hc : c = 78) : wNb v (tLen c) = wWh (wAb v / 1000000) ++ wFr (wAb v % 1000000) := by
  have e : tLen c = 1 := if_pos hc
  rw [e]
  unfold wNb
  rw [if_neg h, if_pos rfl, List.nil_append]
theorem wNb_5 {v c : Int} (h : v < 0) (hc : ¬ c = 78) : wNb v (tLen c) = [45] ++ wWh (0 - v) := by
  have e : tLen c = 0 := if_neg hc
  have e2 : wAb v = 0 - v := (if_pos h).trans (by omega)
  rw [e]
  unfold wNb
  rw [if_pos h, if_neg (show ¬ (0 : Nat) = 1 by decide), e2]
theorem wNb_6 {v c : Int} (h : ¬ v < 0) (hc : ¬ c = 78) : wNb v (tLen c) = wWh v := by
  have e : tLen c = 0 := if_neg hc
  have e2 : wAb v = v := if_neg h
  rw [e]
  unfold wNb
  rw [if_neg h, if_neg (show ¬ (0 : Nat) = 1 by decide), e2, List.nil_append]
