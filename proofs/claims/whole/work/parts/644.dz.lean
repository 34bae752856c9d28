/-! CUTS, the reference: a hole told -/
theorem zDh_a {k n : Nat} {w : List CuR} {net l x y : Int} {I I' L L' : ZI} (h : zDh k w I L) (hn : n = cuHc w) (hb : (0 ≤ x ∧ x ≤ 15) ∧ (0 ≤ y ∧ y ≤ 15) ∧ 0 ≤ l) (h4 : I' (k + 4) 0 = n + 1) (h1 : I' (k + 1) 0 = 1)
    (hi : (I' (k + 5) n = 0 ∧ I' (k + 10) n = l ∧ I' (k + 11) n = l + 1) ∧ (L' (k + 6) n = 1000 * x ∧ L' (k + 7) n = 1000 * y) ∧ L' (k + 8) n = 1000 * x ∧ L' (k + 9) n = 1000 * y)
    (hf : ∀ c j : Nat, (c = k + 5 ∨ c = k + 10 ∨ c = k + 11) ∧ j ≠ n → I' c j = I c j) (hl : ∀ c j : Nat, (k + 6 ≤ c ∧ c ≤ k + 9) ∧ j ≠ n → L' c j = L c j) : zDh k (w ++ [cRw 3 net l (16 * y + x) (16 * y + x)]) I' L' := by
  obtain ⟨c0, c1, c2, c3, c4⟩ := cRw_c (a := 3) (b := net) (d := l) (e := 16 * y + x) (g := 16 * y + x)
  have en := (cuHc_1 (w := w) (r := cRw 3 net l (16 * y + x) (16 * y + x))).2 c0
  have ev := cuHv_n (w := w) (r := cRw 3 net l (16 * y + x) (16 * y + x)) c0
  rw [c2, c3, ← hn] at ev
  refine ⟨⟨by rw [en, h4, hn]; rfl, h1⟩, fun p hp => ?_⟩
  rw [en] at hp
  by_cases q : p = n
  · subst q
    unfold zHi cuHX cuHY
    rw [ev, show (l * 16 * 16 + (16 * y + x)) / 256 = l by omega, show (l * 16 * 16 + (16 * y + x)) % 16 = x by omega, show (l * 16 * 16 + (16 * y + x)) / 16 % 16 = y by omega]
    exact hi
  · have z := zHi_a (r := cRw 3 net l (16 * y + x) (16 * y + x)) (show p < cuHc w by omega) (h.2 p (by omega))
    unfold zHi at z ⊢
    rw [hf (k + 5) p (by omega), hf (k + 10) p (by omega), hf (k + 11) p (by omega), hl (k + 6) p (by omega), hl (k + 7) p (by omega), hl (k + 8) p (by omega), hl (k + 9) p (by omega)]
    exact z
theorem zPc_h {k pc n : Nat} {w : List CuR} {net l x y : Int} {I I' L L' : ZI} (h : zPc k w pc I L) (hpc : pc ≤ w.length ∧ pc ≤ n) (hn : n = cuNp w) (hb : 0 ≤ x ∧ x ≤ 15) (h2 : I' k 2 = n + 1)
    (hw : zPw k n l (l + 1) (-1) (1000 * x) (1000 * y) 0 0 150 I' L')
    (hf : ∀ c j : Nat, ((k + 1 ≤ c ∧ c ≤ k + 3) ∨ c = k + 9) ∧ j ≠ n → I' c j = I c j) (hl : ∀ c j : Nat, (k + 4 ≤ c ∧ c ≤ k + 8) ∧ j ≠ n → L' c j = L c j) (h10 : ∀ q : Nat, q < 40 → I' (k + 10) q = I (k + 10) q) : zPc k (w ++ [cRw 3 net l (16 * y + x) (16 * y + x)]) pc I' L' := by
  have e0 := cuQ_p (x := x) (y := y) hb
  refine zPc_a h (by decide) hn h2 ?_ hf hl (fun _ _ => rfl) (fun q hq => (h10 q hq).trans ((h.2.2 q hq).trans (cuNn_a hpc.1).symm))
  rw [e0.1, e0.2, if_pos rfl, if_neg (show ¬ (3 : Int) = 0 by decide), if_neg (show ¬ (3 : Int) = 0 by decide), if_neg (show ¬ (3 : Int) = 0 by decide)]
  have ep : cuPi pc n = -1 := if_neg (by omega)
  have er : cuRa 3 = 150 := rfl
  rw [ep, er, Int.sub_zero, Int.sub_zero, Int.sub_self, Int.sub_self, Int.add_zero]
  exact hw
/-- the mill's own rows of holes -/
def zMh (w : List CuR) (I : ZI) : Prop := I 165 35 = cuHc w ∧ ∀ p : Nat, p < cuHc w → I 208 p = cuHv w p / 256 ∧ I 209 p = cuHv w p % 16 ∧ I 210 p = cuHv w p / 16 % 16
theorem zMh_fr {w : List CuR} {I I' : ZI} (h : zMh w I) (hf : ∀ c j : Nat, (c = 165 ∧ j = 35) ∨ c = 208 ∨ c = 209 ∨ c = 210 → I' c j = I c j) : zMh w I' := ⟨(hf _ _ (by omega)).trans h.1, fun p hp => ⟨(hf _ _ (by omega)).trans (h.2 p hp).1, (hf _ _ (by omega)).trans (h.2 p hp).2.1, (hf _ _ (by omega)).trans (h.2 p hp).2.2⟩⟩
theorem zMh_n {w : List CuR} {r : CuR} {I : ZI} (h : zMh w I) (hr : r 0 ≠ 3) : zMh (w ++ [r]) I := by
  have e := (cuHc_1 (w := w) (r := r)).1 hr
  exact ⟨by rw [e]; exact h.1, fun p hp => by rw [cuHv_a (show p < cuHc w by omega)]; exact h.2 p (by omega)⟩
theorem zMh_a {n : Nat} {w : List CuR} {net l x y : Int} {I I' : ZI} (h : zMh w I) (hn : n = cuHc w) (hb : (0 ≤ x ∧ x ≤ 15) ∧ (0 ≤ y ∧ y ≤ 15) ∧ 0 ≤ l) (h1 : I' 165 35 = n + 1) (hi : I' 208 n = l ∧ I' 209 n = x ∧ I' 210 n = y)
    (hf : ∀ c j : Nat, (c = 208 ∨ c = 209 ∨ c = 210) ∧ j ≠ n → I' c j = I c j) : zMh (w ++ [cRw 3 net l (16 * y + x) (16 * y + x)]) I' := by
  obtain ⟨c0, c1, c2, c3, c4⟩ := cRw_c (a := 3) (b := net) (d := l) (e := 16 * y + x) (g := 16 * y + x)
  have en := (cuHc_1 (w := w) (r := cRw 3 net l (16 * y + x) (16 * y + x))).2 c0
  have ev := cuHv_n (w := w) (r := cRw 3 net l (16 * y + x) (16 * y + x)) c0
  rw [c2, c3, ← hn] at ev
  refine ⟨by rw [en, h1, hn]; rfl, fun p hp => ?_⟩
  rw [en] at hp
  by_cases q : p = n
  · subst q
    rw [ev, show (l * 16 * 16 + (16 * y + x)) / 256 = l by omega, show (l * 16 * 16 + (16 * y + x)) % 16 = x by omega, show (l * 16 * 16 + (16 * y + x)) / 16 % 16 = y by omega]
    exact hi
  · rw [cuHv_a (show p < cuHc w by omega), hf _ p (by omega), hf _ p (by omega), hf _ p (by omega)]
    exact h.2 p (by omega)
