/-! A BOARD's nets: those of the drawing -/
noncomputable def bDj (d : JdS) (x : Nat) : Int := jOf d ((x / 16 : Nat) : Int) ((x % 16 : Nat) : Int)
theorem zBA_nd {b : Nat} {W H D : Nat} {sd : Int} {f g : Nat → Int} {I L I' L' : ZI} (h : zBA b (bNew W H D sd f) I L) (hg : ∀ x : Nat, x < 960 → I' 97 x = g x) (hf : ∀ c j, 82 ≤ c ∧ c ≤ 96 → I' c j = I c j) (hl : ∀ c j, c = 82 → L' c j = L c j) : zBA b (bNew W H D sd g) I' L' := by
  obtain ⟨⟨q1, q2, q3, q4, q5⟩, h2, h3, h4, h5, h6, h7, h8⟩ := h
  exact ⟨⟨(hf 82 0 (by omega)).trans q1, (hf 82 1 (by omega)).trans q2, (hf 82 2 (by omega)).trans q3, (hf 82 3 (by omega)).trans q4, (hl 82 4 rfl).trans q5⟩, fun c x a b => (hf 83 _ (by omega)).trans (h2 c x a b), fun c hc => ⟨(hf 84 c (by omega)).trans (h3 c hc).1, (hf 85 c (by omega)).trans (h3 c hc).2.1, (hf 86 c (by omega)).trans (h3 c hc).2.2.1, (hf 87 c (by omega)).trans (h3 c hc).2.2.2⟩,
    zRT_fr h4 (fun c j q => hf c j (by omega)), zRT_fr h5 (fun c j q => hf c j (by omega)), fun n hn => absurd hn (Nat.not_lt_zero n), fun l hl => ⟨(hf 94 l (by omega)).trans (h7 l hl).1, (hf 95 l (by omega)).trans (h7 l hl).2.1, (hf 96 l (by omega)).trans (h7 l hl).2.2⟩, fun x hx => hg x hx⟩
theorem bCl_m {x y z : Int} : bCl x 16 * bCl y 16 * bCl z 4 ≤ 1024 := by
  have h1 := (bCl_b (x := x) (m := 16) (by decide)).2
  have h2 := (bCl_b (x := y) (m := 16) (by decide)).2
  have h3 := (bCl_b (x := z) (m := 4) (by decide)).2
  exact Nat.mul_le_mul (Nat.mul_le_mul h1 h2) h3
theorem jOf_b {d : JdS} {x y : Int} (h : jGd d) : -1 ≤ jOf d x y ∧ jOf d x y < 960 := by
  unfold jOf
  split
  · next q =>
    have hle := jNc_le (dbs d) (dT d x.toNat 0) (dns d)
    have g := h.1
    have hV : jV d (16 * x.toNat + y.toNat) := by
      have e1 : (16 * x.toNat + y.toNat) / 16 = x.toNat := by omega
      have e2 : (16 * x.toNat + y.toNat) % 16 = y.toNat := by omega
      unfold jV
      rw [e1, e2]
      exact ⟨by omega, by omega⟩
    have w := jNo_lt hV (show 16 * x.toNat + y.toNat < 960 by omega)
    have w2 := zct_le (jFst d) 960
    omega
  · omega
