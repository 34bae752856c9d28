/-! CUTS, the reference: a row told -/
theorem cuNn_a {w x : List CuR} {pc q : Nat} (h : pc ≤ w.length) : cuNn (w ++ x) pc q = cuNn w pc q := by
  unfold cuNn
  by_cases y : q < pc
  · rw [if_pos y, if_pos y, cg_l (by omega)]
  · rw [if_neg y, if_neg y]
theorem zPc_r {k pc n : Nat} {w : List CuR} {net l x y z u : Int} {I I' L L' : ZI} (h : zPc k w pc I L) (hpc : pc ≤ w.length ∧ pc ≤ n) (hn : n = cuNp w) (hb : (0 ≤ x ∧ x ≤ 15) ∧ 0 ≤ z ∧ z ≤ 15) (h2 : I' k 2 = n + 1)
    (hw : zPw k n l l (-1) (1000 * x - 100) (1000 * y - 100) (1000 * (z - x) + 200) (1000 * (u - y) + 200) 0 I' L')
    (hf : ∀ c j : Nat, ((k + 1 ≤ c ∧ c ≤ k + 3) ∨ c = k + 9) ∧ j ≠ n → I' c j = I c j) (hl : ∀ c j : Nat, (k + 4 ≤ c ∧ c ≤ k + 8) ∧ j ≠ n → L' c j = L c j) (h10 : ∀ q : Nat, q < 40 → I' (k + 10) q = I (k + 10) q) : zPc k (w ++ [cRw 0 net l (16 * y + x) (16 * u + z)]) pc I' L' := by
  have e0 := cuQ_p (x := x) (y := y) hb.1
  have e1 := cuQ_p (x := z) (y := u) hb.2
  refine zPc_a h (by decide) hn h2 ?_ hf hl (fun _ _ => rfl) (fun q hq => (h10 q hq).trans ((h.2.2 q hq).trans (cuNn_a hpc.1).symm))
  rw [e0.1, e0.2, e1.1, e1.2, if_neg (show ¬ (0 : Int) = 3 by decide), if_pos rfl, if_pos rfl, if_pos rfl]
  have ep : cuPi pc n = -1 := if_neg (by omega)
  rw [ep, Int.add_zero, show 1000 * z - 1000 * x + 200 = 1000 * (z - x) + 200 by omega, show 1000 * u - 1000 * y + 200 = 1000 * (u - y) + 200 by omega]
  exact hw
