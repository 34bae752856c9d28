/-! CUTS, the reference: shapes counted -/
theorem cuHo_l {s : BdS} {net : Int} {l j i : Nat} : (cuHo s net l j i).length ≤ 3 := by
  by_cases h : cuHb s net l i j = 1 ∧ cuHb s net ((l : Int) + 1) i j = 1
  · rw [cuHo_y h.1 h.2]; exact Nat.le_refl 3
  · rw [cuHo_n h]; exact Nat.zero_le 3
theorem cuH2_l {s : BdS} {net : Int} {l j i : Nat} (hi : i ≤ 16) : (cuH2 s net l j i).length ≤ 48 := by
  have z := cuC_l (f := fun i => cuHo s net l j i) (m := 3) (n := i) (fun _ _ => cuHo_l)
  show (cuC (fun i => cuHo s net l j i) i).length ≤ 48
  omega
theorem cuH1_l {s : BdS} {net : Int} {l j : Nat} (hw : bW s ≤ 16) (hj : j ≤ 16) : (cuH1 s net l j).length ≤ 768 := by
  have z := cuC_l (f := fun j => cuC (fun i => cuHo s net l j i) (bW s)) (m := 48) (n := j) (fun j _ => cuH2_l (s := s) (net := net) (l := l) (j := j) hw)
  show (cuC (fun j => cuC (fun i => cuHo s net l j i) (bW s)) j).length ≤ 768
  omega
