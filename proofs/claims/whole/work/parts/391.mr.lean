/-! ROUTING, as it is asked for -/
noncomputable def bRu : Nat → BdS → BdS
  | 0, s => s
  | k + 1, s => if 0 < bOpn s (bnn s) then bRu k (bGr s) else s
theorem bRu_0 {s : BdS} (h : ¬ 0 < bOpn s (bnn s)) : ∀ k, bRu k s = s
  | 0 => rfl
  | k + 1 => if_neg h
noncomputable def bRtS (s : BdS) (r : Int) : BdS := if 1 ≤ r ∧ r ≤ 20 then bRu r.toNat s else s
noncomputable def bRtV (s : BdS) (r : Int) : Int := if 1 ≤ r ∧ r ≤ 20 then bOpn (bRu r.toNat s) (bnn (bRu r.toNat s)) else -2
