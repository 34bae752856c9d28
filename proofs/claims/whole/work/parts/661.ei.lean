/-! CUTS, the reference: all shapes, counted -/
theorem cuRp_1 {s : BdS} {net : Int} {l : Nat} (hw : bW s ≤ 16) (hh : bH s ≤ 16) : (cuC (fun l => cuC (fun r => cuLn s net l r 1) (bH s)) l).length ≤ l * 272 := cuC_l (fun _ _ => cuRl_l hw hh hh)
theorem cuRp_0 {s : BdS} {net : Int} {l : Nat} (hw : bW s ≤ 16) (hh : bH s ≤ 16) : (cuC (fun l => cuC (fun r => cuLn s net l r 0) (bW s)) l).length ≤ l * 272 := cuC_l (fun _ _ => cuRl_l hw hh hw)
theorem cuRp_h {s : BdS} {net : Int} {l : Nat} (hw : bW s ≤ 16) (hh : bH s ≤ 16) : (cuC (fun l => cuH1 s net l (bH s)) l).length ≤ l * 768 := cuC_l (fun _ _ => cuH1_l hw hh)
theorem cuRs_1 {s : BdS} {net : Int} : cuRs s net 1 = cuC (fun l => cuC (fun r => cuLn s net l r 1) (bH s)) (bD s) := rfl
theorem cuRs_0 {s : BdS} {net : Int} : cuRs s net 0 = cuC (fun l => cuC (fun r => cuLn s net l r 0) (bW s)) (bD s) := rfl
theorem cuHs_e {s : BdS} {net : Int} : cuHs s net = cuC (fun l => cuH1 s net l (bH s)) (bD s - 1) := rfl
theorem cuNt_le {s : BdS} {n : Nat} (hw : bW s ≤ 16) (hh : bH s ≤ 16) (hd : bD s ≤ 4) : (cuNt s n).length ≤ 4480 ∧ (cuRs s n 1).length ≤ 1088 ∧ (cuRs s n 0).length ≤ 1088 := by
  have a1 := cuRp_1 (s := s) (net := n) (l := bD s) hw hh
  have a2 := cuRp_0 (s := s) (net := n) (l := bD s) hw hh
  have a3 := cuRp_h (s := s) (net := n) (l := bD s - 1) hw hh
  rw [← cuRs_1] at a1
  rw [← cuRs_0] at a2
  rw [← cuHs_e] at a3
  refine ⟨?_, by omega, by omega⟩
  unfold cuNt
  split
  · rw [List.length_append, List.length_append]; omega
  · exact Nat.zero_le _
theorem cuS_wl {s : BdS} {n : Nat} (hw : bW s ≤ 16) (hh : bH s ≤ 16) (hd : bD s ≤ 4) (hp : bnp s ≤ 40) : (cuC (fun p => [cuPd s p]) (bnp s) ++ cuC (cuNt s) n).length ≤ 40 + n * 4480 := by
  have a := cuC_l (f := cuNt s) (m := 4480) (n := n) (fun _ _ => (cuNt_le hw hh hd).1)
  have b := cuC_1 (f := fun p => cuPd s p) (bnp s)
  rw [List.length_append, b]
  omega
theorem cuS_sy {s : BdS} {n : Nat} (h : bN s n 2 = 1) {x : List CuR} : (((x ++ cuC (cuNt s) n) ++ cuRs s n 1) ++ cuRs s n 0) ++ cuHs s n = x ++ cuC (cuNt s) (n + 1) := by
  show _ = x ++ (cuC (cuNt s) n ++ cuNt s n)
  unfold cuNt
  rw [if_pos h]
  simp only [List.append_assoc]
theorem cuS_sn {s : BdS} {n : Nat} (h : ¬ bN s n 2 = 1) {x : List CuR} : x ++ cuC (cuNt s) n = x ++ cuC (cuNt s) (n + 1) := by
  show _ = x ++ (cuC (cuNt s) n ++ cuNt s n)
  unfold cuNt
  rw [if_neg h, List.append_nil]
/-- a pad told -/
theorem cuPd_c {s : BdS} {p : Nat} {l i j : Int} (hc : cxI (bW s) (bH s) (bD s) l i j = bP s p 2) (hb : 0 ≤ bP s p 2) : ((0 ≤ l ∧ l < bD s) ∧ (0 ≤ i ∧ i < bW s) ∧ 0 ≤ j ∧ j < bH s) ∧ cuPd s p = cRw 1 (bP s p 3) l (16 * j + i) (16 * j + i) := by
  unfold cxI at hc
  by_cases h : 0 ≤ l ∧ l < bD s ∧ 0 ≤ i ∧ i < bW s ∧ 0 ≤ j ∧ j < bH s
  · rw [if_pos h] at hc
    obtain ⟨h1, h2, h3, h4, h5, h6⟩ := h
    have e : (bP s p 2).toNat = (l.toNat * bH s + j.toNat) * bW s + i.toNat := by rw [← hc]; exact Int.toNat_natCast _
    refine ⟨⟨⟨h1, h2⟩, ⟨h3, h4⟩, h5, h6⟩, ?_⟩
    have a1 : ((l.toNat : Nat) : Int) = l := by omega
    have a2 : ((i.toNat : Nat) : Int) = i := by omega
    have a3 : ((j.toNat : Nat) : Int) = j := by omega
    unfold cuPd cuPp
    rw [e, cx_lay (by omega) (by omega), cx_row (by omega) (by omega), cx_col (by omega), a1, a2, a3]
  · rw [if_neg h] at hc
    omega
theorem cuNp_ps {s : BdS} : ∀ p, cuNp (cuC (fun p => [cuPd s p]) p) = p
  | 0 => rfl
  | p + 1 => by
    show cuNp (cuC _ p ++ [cuPd s p]) = _
    rw [(cuNp_a).1 (by show (1 : Int) ≠ 2; decide), cuNp_ps p]
theorem zMK_p {k q d p : Nat} {w : List CuR} {r : CuR} {D : Int} {I' L' : ZI} (hr : r 0 = 1) (hl : w.length = p) (hnp : cuNp w = p) (h3 : cu3 w) (hD8 : D ≤ 8) (h42 : I' 165 42 = p + 1) (h1 : zCk k (w ++ [r]) I' L') (h2 : zFrs k (w.length + 1) I' L') (hP : zPc q (w ++ [r]) (p + 1) I' L') (hDh : zDh d w I' L') (hM : zMh w I') (hD : (I' k 1 = D ∧ I' k 11 = 0 ∧ I' k 23 = 0) ∧ I' q 1 = D) (h41 : I' 165 41 = 1) : zMK k q d (w ++ [r]) (p + 1) D I' L' := by
  have h13 : r 0 ≠ 3 := by rw [hr]; decide
  have h12 : r 0 ≠ 2 := by rw [hr]; decide
  refine ⟨⟨h1, by rw [cLn]; exact h2⟩, ⟨hP, by rw [cLn]; omega, ?_⟩, ⟨zDh_n hDh h13, zMh_n hM h13, cu3_a h3 (cu3_n fun r' hr' => by rw [List.mem_singleton.mp hr']; exact h13)⟩, ⟨hD.1, hD.2, hD8⟩, by rw [cLn, h42, hl]; rfl, h41⟩
  rw [(cuNp_a).1 h12]
  omega
theorem zPw_e {k n : Nat} {lo hi pin x y lo' hi' pin' x' y' a b r : Int} {I L : ZI} (h : zPw k n lo hi pin x y a b r I L) (e1 : lo = lo') (e2 : hi = hi') (e3 : pin = pin') (e4 : x = x') (e5 : y = y') : zPw k n lo' hi' pin' x' y' a b r I L := by
  subst e1 e2 e3 e4 e5
  exact h
theorem cuS_pr {s : BdS} {n : Nat} (hn : n < bnn s) (hy : bN s n 2 = 1) : ((((cuC (fun p => [cuPd s p]) (bnp s) ++ cuC (cuNt s) n) ++ cuRs s n 1) ++ cuRs s n 0) ++ cuHs s n).length ≤ (cuS s).length := by
  have a := cuC_ml (f := cuNt s) (show n + 1 ≤ bnn s by omega)
  rw [cuS_sy hy]
  show _ ≤ (_ ++ _ : List CuR).length
  rw [List.length_append, List.length_append]
  omega
theorem cuC_sl {α : Type} {f : Nat → List α} {l : Nat} : (cuC f (l + 1)).length = (cuC f l).length + (f l).length := by
  show (_ ++ _ : List α).length = _
  rw [List.length_append]
theorem cuS_A {s : BdS} {n l : Nat} (hn : n < bnn s) (hy : bN s n 2 = 1) (hl : l + 1 ≤ bD s) : ((cuC (fun p => [cuPd s p]) (bnp s) ++ cuC (cuNt s) n) ++ cuC (fun l => cuC (fun r => cuLn s n l r 1) (bH s)) l).length + (cuC (fun r => cuLn s n l r 1) (bH s)).length ≤ (cuS s).length := by
  have a := cuC_ml (f := fun l => cuC (fun r => cuLn s n l r 1) (bH s)) hl
  have e := cuC_sl (f := fun l => cuC (fun r => cuLn s n l r 1) (bH s)) (l := l)
  have b := cuS_pr hn hy
  rw [cuRs_1] at b
  simp only [List.length_append] at b ⊢
  omega
theorem cuS_B {s : BdS} {n l : Nat} (hn : n < bnn s) (hy : bN s n 2 = 1) (hl : l + 1 ≤ bD s) : (((cuC (fun p => [cuPd s p]) (bnp s) ++ cuC (cuNt s) n) ++ cuRs s n 1) ++ cuC (fun l => cuC (fun r => cuLn s n l r 0) (bW s)) l).length + (cuC (fun r => cuLn s n l r 0) (bW s)).length ≤ (cuS s).length := by
  have a := cuC_ml (f := fun l => cuC (fun r => cuLn s n l r 0) (bW s)) hl
  have e := cuC_sl (f := fun l => cuC (fun r => cuLn s n l r 0) (bW s)) (l := l)
  have b := cuS_pr hn hy
  rw [cuRs_0] at b
  simp only [List.length_append] at b ⊢
  omega
theorem cuS_H {s : BdS} {n l : Nat} (hn : n < bnn s) (hy : bN s n 2 = 1) (hl : l + 1 ≤ bD s - 1) : ((((cuC (fun p => [cuPd s p]) (bnp s) ++ cuC (cuNt s) n) ++ cuRs s n 1) ++ cuRs s n 0) ++ cuC (fun l => cuH1 s n l (bH s)) l).length + (cuH1 s n l (bH s)).length ≤ (cuS s).length := by
  have a := cuC_ml (f := fun l => cuH1 s n l (bH s)) hl
  have e := cuC_sl (f := fun l => cuH1 s n l (bH s)) (l := l)
  have b := cuS_pr hn hy
  rw [cuHs_e] at b
  simp only [List.length_append] at b ⊢
  omega
theorem zPc_p {k p : Nat} {w : List CuR} {net l x y : Int} {I I' L L' : ZI} (h : zPc k w p I L) (hl : w.length = p) (hn : cuNp w = p) (hb : 0 ≤ x ∧ x ≤ 15) (h2 : I' k 2 = p + 1) (hw : zPw k p l l p (1000 * x) (1000 * y) 0 0 300 I' L')
    (hf : ∀ c j : Nat, ((k + 1 ≤ c ∧ c ≤ k + 3) ∨ c = k + 9) ∧ j ≠ p → I' c j = I c j) (hf2 : ∀ c j : Nat, (k + 4 ≤ c ∧ c ≤ k + 8) ∧ j ≠ p → L' c j = L c j) (h10 : I' (k + 10) p = net) (h11 : ∀ q : Nat, q < 40 → q ≠ p → I' (k + 10) q = I (k + 10) q) : zPc k (w ++ [cRw 1 net l (16 * y + x) (16 * y + x)]) (p + 1) I' L' := by
  have e0 := cuQ_p (x := x) (y := y) hb
  refine zPc_a h (by decide) hn.symm h2 ?_ hf hf2 (fun p' hp' => ?_) (fun q hq => ?_)
  · have ep : cuPi (p + 1) p = p := if_pos (by omega)
    have er : cuRa 1 = 300 := rfl
    rw [e0.1, e0.2, ep, er, if_neg (show ¬ (1 : Int) = 3 by decide), if_neg (show ¬ (1 : Int) = 0 by decide), if_neg (show ¬ (1 : Int) = 0 by decide), if_neg (show ¬ (1 : Int) = 0 by decide), Int.add_zero, Int.sub_zero, Int.sub_zero, Int.sub_self, Int.sub_self, Int.add_zero]
    exact hw
  · show (if p' < p + 1 then (p' : Int) else -1) = if p' < p then (p' : Int) else -1
    rw [if_pos (by omega), if_pos hp']
  · by_cases e : q = p
    · rw [e, h10]
      unfold cuNn
      rw [if_pos (by omega), show p = w.length from hl.symm, cg_e]
      rfl
    · rw [h11 q hq e, h.2.2 q hq]
      unfold cuNn
      by_cases z : q < p
      · rw [if_pos z, if_pos (by omega), cg_l (by omega)]
      · rw [if_neg z, if_neg (by omega)]
