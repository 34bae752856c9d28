/-! PAGES -/
def wOw (O : OoS) (j : Nat) : List Int := if okd O j = 9 then wRw (otc O j 0) (otl O j 0) else wOb O j (okd O j).toNat
theorem wOw_9 {O : OoS} {j : Nat} (h : okd O j = 9) : wOw O j = wRw (otc O j 0) (otl O j 0) := if_pos h
theorem wOw_n {O : OoS} {j : Nat} (h : okd O j ≠ 9) : wOw O j = wOb O j (okd O j).toNat := if_neg h
/-- lines -/
def wLi (O : OoS) (dp : Nat → Nat) : Nat → List Int
  | 0 => []
  | m + 1 => wLi O dp m ++ (wTm 46 (dp m) ++ (wOw O m ++ [10]))
/-- lists: how many are open behind the first m objects; what stands ahead of an object; the text -/
def wLo (O : OoS) (dp : Nat → Nat) : Nat → Nat
  | 0 => 0
  | m + 1 => min (wLo O dp m) (dp m) + if okd O m = 9 then 0 else 1
def wLh (O : OoS) (dp : Nat → Nat) (m : Nat) : List Int := wTm 41 (wLo O dp m - dp m) ++ ((if 0 < m then [10] ++ wTm 32 (dp m) else []) ++ if okd O m = 9 then [] else [40])
def wLs (O : OoS) (dp : Nat → Nat) : Nat → List Int
  | 0 => []
  | m + 1 => wLs O dp m ++ (wLh O dp m ++ wOw O m)
def wPg (O : OoS) (dp : Nat → Nat) (fm : Int) : List Int := if fm = 0 then wLs O dp (ocn O) ++ (wTm 41 (wLo O dp (ocn O)) ++ [10]) else wLi O dp (ocn O)
theorem wLo_9 {O : OoS} {dp : Nat → Nat} {m : Nat} (h : okd O m = 9) : wLo O dp (m + 1) = min (wLo O dp m) (dp m) := by
  show min (wLo O dp m) (dp m) + (if okd O m = 9 then 0 else 1) = _
  rw [if_pos h]
  rfl
theorem wLo_n {O : OoS} {dp : Nat → Nat} {m : Nat} (h : okd O m ≠ 9) : wLo O dp (m + 1) = min (wLo O dp m) (dp m) + 1 := by
  show min (wLo O dp m) (dp m) + (if okd O m = 9 then 0 else 1) = _
  rw [if_neg h]
theorem zPG_0 {k : Nat} {I : ZI} (h : I k 12 = 0) : zPG k [] I := ⟨h, fun i hi => absurd hi (by show ¬ i < min 0 26000; omega)⟩
