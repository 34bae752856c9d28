/-- what a call for letter j throws, and answers -/
def wTh (O : OoS) (j : Int) : Int := if j < 0 then 1 else if ocn O = 0 then 2 else 0
def wOt (w : List Int) (th j : Int) : Int := if th ≠ 0 then 0 else if j < w.length then wAt w j.toNat else -1
theorem wTh_1 {O : OoS} {j : Int} (h : j < 0) : wTh O j = 1 := if_pos h
theorem wTh_2 {O : OoS} {j : Int} (h : ¬ j < 0) (h2 : ocn O = 0) : wTh O j = 2 := (if_neg h).trans (if_pos h2)
theorem wTh_3 {O : OoS} {j : Int} (h : ¬ j < 0) (h2 : ¬ ocn O = 0) : wTh O j = 0 := (if_neg h).trans (if_neg h2)
theorem wOt_0 {w : List Int} {th j : Int} (h : th ≠ 0) : wOt w th j = 0 := if_pos h
theorem wOt_1 {w : List Int} {th j : Int} (h : th = 0) (h2 : j < w.length) : wOt w th j = wAt w j.toNat := (if_neg (fun q => q h)).trans (if_pos h2)
theorem wOt_2 {w : List Int} {th j : Int} (h : th = 0) (h2 : ¬ j < w.length) : wOt w th j = -1 := (if_neg (fun q => q h)).trans (if_neg h2)
/-- what was written stands, unless it is stale -/
def zPS (k : Nat) (O : OoS) (w : List Int) (I : ZI) : Prop := I k 27 = 0 → 0 < ocn O → zPO k w I
theorem zPS_fr {k : Nat} {O : OoS} {w : List Int} {I I' : ZI} (h : zPS k O w I) (hf : ∀ x j : Nat, (x = k ∧ (j = 26 ∨ j = 27)) ∨ x = k + 12 → I' x j = I x j) : zPS k O w I' := fun h1 h2 => zPO_fr (h ((hf k 27 (by omega)).symm.trans h1) h2) (fun x j hx => hf x j (by omega))
