/-! ROOM FOR WHAT IS WRITTEN -/
def wTri : Nat → Nat
  | 0 => 0
  | m + 1 => wTri m + m
def wKp (O : OoS) : Nat → Nat
  | 0 => 0
  | m + 1 => wKp O m + if okd O m = 9 then otl O m 0 else 0
theorem wTri_u : ∀ k m, m + k = 200 → wTri m ≤ 19900
  | 0, m, h => by
    have e : m = 200 := by omega
    subst e
    decide +kernel
  | k + 1, m, h => by
    have z := wTri_u k (m + 1) (by omega)
    have e : wTri (m + 1) = wTri m + m := rfl
    omega
theorem wKp_u {O : OoS} : ∀ k m, wKp O m ≤ wKp O (m + k)
  | 0, m => Nat.le_refl _
  | k + 1, m => by
    have z := wKp_u (O := O) k m
    have e : wKp O (m + (k + 1)) = wKp O (m + k) + if okd O (m + k) = 9 then otl O (m + k) 0 else 0 := rfl
    omega
theorem wOw_l {O : OoS} {j : Nat} (hO : oGd O) (hj : j < ocn O) : (wOw O j).length ≤ 421 + if okd O j = 9 then otl O j 0 else 0 := by
  by_cases h : okd O j = 9
  · rw [wOw_9 h, if_pos h, wRw_l]
    omega
  · rw [wOw_n h, if_neg h]
    have hb := (hO.2.1 j hj).1
    have z := wOb_l (O := O) (j := j) (a := (okd O j).toNat) (fun w hw => (hO.2.2.2.1 j w hj (by omega)).2 h) (by omega)
    omega
theorem wLs_l {O : OoS} {dp : Nat → Nat} (hO : oGd O) (h : wPre O dp) : ∀ m, m ≤ ocn O → (wLs O dp m).length + wLo O dp m ≤ 424 * m + wTri m + wKp O m
  | 0, _ => Nat.le_refl _
  | m + 1, hm => by
    have z := wLs_l hO h m (by omega)
    have z1 := wLo_e h m (by omega)
    have z2 := wDp_l h m (by omega)
    have z3 := wOw_l hO (j := m) (by omega)
    have e1 : wTri (m + 1) = wTri m + m := rfl
    have e2 : wKp O (m + 1) = wKp O m + if okd O m = 9 then otl O m 0 else 0 := rfl
    have e3 : (wLs O dp (m + 1)).length = (wLs O dp m).length + ((wLh O dp m).length + (wOw O m).length) := by
      show (wLs O dp m ++ (wLh O dp m ++ wOw O m)).length = _
      rw [List.length_append, List.length_append]
    have e4 : (wLh O dp m).length ≤ (wLo O dp m - dp m) + 1 + dp m + 1 := by
      unfold wLh
      rw [List.length_append, List.length_append, wTm_l]
      have a1 : (if 0 < m then [10] ++ wTm 32 (dp m) else []).length ≤ 1 + dp m := by
        by_cases q : 0 < m
        · rw [if_pos q, List.length_append, wTm_l]
          exact Nat.le_refl _
        · rw [if_neg q]
          exact Nat.zero_le _
      have a2 : (if okd O m = 9 then [] else [(40 : Int)]).length ≤ 1 := by
        by_cases q : okd O m = 9
        · rw [if_pos q]
          exact Nat.zero_le _
        · rw [if_neg q]
          exact Nat.le_refl _
      omega
    have e5 : (if okd O m = 9 then 0 else 1) ≤ 1 := by
      by_cases q : okd O m = 9
      · rw [if_pos q]; omega
      · rw [if_neg q]; omega
    omega
theorem wLj_l {O : OoS} {dp : Nat → Nat} (hO : oGd O) (h : wPre O dp) : ∀ m, m ≤ ocn O → (wLj O dp m).length ≤ 424 * m + wTri m + wKp O m
  | 0, _ => Nat.zero_le _
  | m + 1, hm => by
    have z := wLj_l hO h m (by omega)
    have z2 := wDp_l h m (by omega)
    have z3 := wOw_l hO (j := m) (by omega)
    have e1 : wTri (m + 1) = wTri m + m := rfl
    have e2 : wKp O (m + 1) = wKp O m + if okd O m = 9 then otl O m 0 else 0 := rfl
    have e3 : (wLj O dp (m + 1)).length ≤ (wLj O dp m).length + 1 + (dp m + (wOw O m).length) := by
      show ((if 0 < m then wLj O dp m ++ [10] else []) ++ (wTm 46 (dp m) ++ wOw O m)).length ≤ _
      rw [List.length_append, List.length_append, wTm_l]
      by_cases q : 0 < m
      · rw [if_pos q, List.length_append]
        exact Nat.le_refl _
      · rw [if_neg q]
        show 0 + _ ≤ _
        omega
    omega
theorem wWr_l {O : OoS} {dp : Nat → Nat} {fm : Int} (hO : oGd O) (h : wPre O dp) (hk : wKp O (ocn O) ≤ 2000) : ∀ m x, m ≤ ocn O → x ≤ 200 → (wWr O dp fm m x).length + 2900 ≤ 110000 := fun m x hm hx => by
  have h2 := hO.1
  have z1 := wTri_u (200 - m) m (by omega)
  have z2 := wKp_u (O := O) (ocn O - m) m
  rw [show m + (ocn O - m) = ocn O by omega] at z2
  unfold wWr
  by_cases e : fm = 0
  · rw [if_pos e, List.length_append, wTm_l]
    have z := wLs_l hO h m hm
    omega
  · rw [if_neg e]
    have z := wLj_l hO h m hm
    omega
