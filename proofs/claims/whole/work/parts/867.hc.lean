
theorem adM_0 {f : Nat → Int} {e : Int} {nd i : Nat} (h : adM f e nd i = 0) : adM f e nd (i + 1) = 0 := by
  rcases Nat.lt_or_ge i nd with q | q
  · rw [adM_in q, if_neg (by omega)]
  · rw [adM_ou q]; exact h
theorem adM_1 {f : Nat → Int} {e : Int} {nd i : Nat} (q : i < nd) (h : adM f e nd i = 1) (h2 : f i = 1) : adM f e nd (i + 1) = 1 := by
  rw [adM_in q, if_pos ⟨h, h2⟩]
theorem adM_n {f : Nat → Int} {e : Int} {nd i : Nat} (q : i < nd) (h2 : ¬ f i = 1) : adM f e nd (i + 1) = 0 := by
  rw [adM_in q, if_neg (fun y => h2 y.2)]
