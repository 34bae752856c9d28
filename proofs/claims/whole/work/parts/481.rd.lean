/-! THE READER of the class, that of the reference: a text's characters -/
def zRD (c : Nat → Int) (n : Nat) (I : ZI) : Prop := I 61 1 = n ∧ ∀ p : Nat, p < n → I 42 p = c p
theorem zRD_fr {c : Nat → Int} {n : Nat} {I I' : ZI} (h : zRD c n I) (hf : ∀ x j : Nat, (x = 61 ∧ j = 1) ∨ x = 42 → I' x j = I x j) : zRD c n I' := ⟨(hf 61 1 (by omega)).trans h.1, fun p hp => (hf 42 p (by omega)).trans (h.2 p hp)⟩
def zRM (k : Nat) (c : Nat → Int) (n : Nat) (I : ZI) : Prop := I k 3 = n ∧ ∀ p : Nat, p < n → I (k + 1) p = c p
theorem zRM_fr {k : Nat} {c : Nat → Int} {n : Nat} {I I' : ZI} (h : zRM k c n I) (hf : ∀ x j : Nat, (x = k ∧ j = 3) ∨ x = k + 1 → I' x j = I x j) : zRM k c n I' := ⟨(hf k 3 (by omega)).trans h.1, fun p hp => (hf (k + 1) p (by omega)).trans (h.2 p hp)⟩
