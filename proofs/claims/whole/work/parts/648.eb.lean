/-! CUTS, the reference: runs found by looking ahead -/
theorem cuL_pre {mk : Nat → Nat → CuR} {h : Nat → Int} {a : Nat} : ∀ {b : Nat}, a ≤ b → ∃ x, cuL mk h b = cuL mk h a ++ x
  | 0, q => ⟨[], by rw [show a = 0 by omega, List.append_nil]⟩
  | b + 1, q => by
    by_cases e : a = b + 1
    · exact ⟨[], by rw [e, List.append_nil]⟩
    · obtain ⟨x, hx⟩ := cuL_pre (mk := mk) (h := h) (a := a) (b := b) (by omega)
      refine ⟨x ++ (if h b = 1 then [] else if 1 < cuR h b then [mk (b - cuR h b) (b - 1)] else []), ?_⟩
      show cuL mk h b ++ _ = _
      rw [hx, List.append_assoc]
theorem cuL_ml {mk : Nat → Nat → CuR} {h : Nat → Int} {a b : Nat} (q : a ≤ b) : (cuL mk h a).length ≤ (cuL mk h b).length := by
  obtain ⟨x, hx⟩ := cuL_pre (mk := mk) (h := h) q
  rw [hx, List.length_append]
  omega
/-- while a run lasts; where it ends -/
theorem cuLa_s {mk : Nat → Nat → CuR} {h : Nat → Int} {k e : Nat} (hk : k ≤ e) (hR : cuR h e = e - k) (hL : cuL mk h e = cuL mk h k) (he : h e = 1) : cuR h (e + 1) = e + 1 - k ∧ cuL mk h (e + 1) = cuL mk h k := ⟨by rw [cuR_y he, hR]; omega, by rw [cuL_y he, hL]⟩
theorem cuLa_y {mk : Nat → Nat → CuR} {h : Nat → Int} {k e : Nat} (hk : k ≤ e) (hR : cuR h e = e - k) (hL : cuL mk h e = cuL mk h k) (he : ¬ h e = 1) (h1 : 1 < e - k) : cuR h (e + 1) = 0 ∧ cuL mk h (e + 1) = cuL mk h k ++ [mk k (e - 1)] := ⟨cuR_n he, by rw [cuL_r he (by rw [hR]; exact h1), hL, hR, show e - (e - k) = k by omega]⟩
theorem cuLa_n {mk : Nat → Nat → CuR} {h : Nat → Int} {k e : Nat} (hR : cuR h e = e - k) (hL : cuL mk h e = cuL mk h k) (he : ¬ h e = 1) (h1 : ¬ 1 < e - k) : cuR h (e + 1) = 0 ∧ cuL mk h (e + 1) = cuL mk h k := ⟨cuR_n he, by rw [cuL_n he (by rw [hR]; exact h1), hL]⟩
/-- beyond the line no net holds a cell -/
theorem cuHl_e {s : BdS} {net : Int} {l r al : Nat} : ¬ cuHl s net l r al (cuMx s al) = 1 := by
  by_cases e : al = 1
  · rw [cuHl_1 e, cuMx_1 e]
    rw [cuHb_n (fun q => q.1 (by unfold cxI; rw [if_neg (by omega)]))]
    decide
  · rw [cuHl_0 e, cuMx_0 e]
    rw [cuHb_n (fun q => q.1 (by unfold cxI; rw [if_neg (by omega)]))]
    decide
theorem cuLn_l {s : BdS} {net : Int} {l r al e : Nat} (he : e ≤ cuMx s al) : (cuC (fun r => cuLn s net l r al) r).length + (cuL (cuMk net l r al) (cuHl s net l r al) (e + 1)).length ≤ (cuC (fun r => cuLn s net l r al) (r + 1)).length := by
  show _ ≤ (cuC (fun r => cuLn s net l r al) r ++ cuLn s net l r al).length
  rw [List.length_append]
  have z := cuL_ml (mk := cuMk net l r al) (h := cuHl s net l r al) (show e + 1 ≤ cuMx s al + 1 by omega)
  unfold cuLn
  omega
