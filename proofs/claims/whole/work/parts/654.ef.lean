/-! CUTS, the reference: the drill text, piece by piece -/
theorem dWd_L : dWd 21 = [77, 52, 56, 10, 76] ∧ dWd 22 = [44] ∧ dWd 23 = [10, 84, 48, 67, 51, 48, 48, 80, 10, 37, 10] ∧ dWd 24 = [84, 48, 10] ∧ dWd 25 = [88] ∧ dWd 26 = [89] ∧ dWd 27 = [10] ∧ dWd 28 = [77, 51, 48, 10] := by decide +kernel
theorem dNu_300 : dNu 300 = [51, 48, 48] := by decide +kernel
/-- behind the head; behind n holes -/
noncomputable def dH0 (l : Int) : List Int := dWd 21 ++ dNu l ++ dWd 22 ++ dNu (l + 1) ++ dWd 23
noncomputable def dHn (w : List CuR) (l : Int) (n : Nat) : List Int := dH0 l ++ @ite (List Int) (zct (dIs w l) n = 0) (Nat.decEq _ _) [] (dWd 24) ++ cuC (dHl w l) n
theorem dHn_0 {w : List CuR} {l : Int} : dHn w l 0 = dH0 l := by
  unfold dHn
  rw [if_pos (show zct (dIs w l) 0 = 0 from rfl), List.append_nil]
  exact List.append_nil _
theorem cuC_no {w : List CuR} {l : Int} : ∀ {n : Nat}, zct (dIs w l) n = 0 → cuC (dHl w l) n = []
  | 0, _ => rfl
  | n + 1, h => by
    by_cases q : dIs w l n
    · rw [zct_t q] at h
      omega
    · rw [zct_f q] at h
      show cuC (dHl w l) n ++ dHl w l n = []
      rw [cuC_no h, dHl_n q]
      rfl
theorem dHn_n {w : List CuR} {l : Int} {n : Nat} (h : ¬ dIs w l n) : dHn w l (n + 1) = dHn w l n := by
  unfold dHn
  rw [zct_f h]
  show _ ++ (cuC (dHl w l) n ++ dHl w l n) = _
  rw [dHl_n h, List.append_nil]
theorem dHn_1 {w : List CuR} {l : Int} {n : Nat} (h : dIs w l n) (h0 : zct (dIs w l) n = 0) : dHn w l (n + 1) = dHn w l n ++ dWd 24 ++ dHl w l n := by
  unfold dHn
  rw [zct_t h, if_neg (by omega), if_pos h0]
  show _ ++ (cuC (dHl w l) n ++ dHl w l n) = _
  rw [cuC_no h0, List.append_nil, List.append_nil]
  rfl
theorem dHn_2 {w : List CuR} {l : Int} {n : Nat} (h : dIs w l n) (h0 : zct (dIs w l) n ≠ 0) : dHn w l (n + 1) = dHn w l n ++ dHl w l n := by
  unfold dHn
  rw [zct_t h, if_neg (by omega), if_neg h0]
  show _ ++ (cuC (dHl w l) n ++ dHl w l n) = _
  simp only [List.append_assoc]
theorem dHn_e {w : List CuR} {l : Int} : dHn w l (cuHc w) ++ dWd 28 = dTx w l := by
  unfold dHn dTx dHd dH0
  by_cases q : zct (dIs w l) (cuHc w) = 0
  · rw [if_pos q]
  · rw [if_neg q]
theorem dHn_l {w : List CuR} {l : Int} {n : Nat} : (dHn w l n).length ≤ 30 + 13 * n := by
  unfold dHn dH0
  obtain ⟨l1, l2, l3, l4, _⟩ := dWd_l
  have z := cuC_l (f := dHl w l) (m := 13) (n := n) (fun i _ => dHl_l)
  have a := dNu_l (v := l)
  have b := dNu_l (v := l + 1)
  rw [List.length_append, List.length_append, List.length_append, List.length_append, List.length_append, List.length_append]
  by_cases q : zct (dIs w l) n = 0
  · rw [if_pos q]
    show _ + 0 + _ ≤ _
    omega
  · rw [if_neg q]
    omega
