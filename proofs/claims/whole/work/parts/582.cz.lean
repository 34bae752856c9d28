/-! CUTS: airlines that are asked for -/
theorem cg_r {w x : List CuR} {i c : Nat} : cg (w ++ x) (w.length + i) c = cg x i c := by
  unfold cg
  rw [List.getD_eq_getElem?_getD, List.getD_eq_getElem?_getD, List.getElem?_append_right (Nat.le_add_right _ _), Nat.add_sub_cancel_left]
section
variable {f : Nat → List CuR} {M : Nat} {net : Int}
theorem cuC_in {N n t c : Nat} (hn : N < n) (ht : t < (f N).length) : (cuC f N).length + t < (cuC f n).length ∧ cg (cuC f n) ((cuC f N).length + t) c = cg (f N) t c := by
  obtain ⟨x, hx⟩ := cuC_le (f := f) (show N + 1 ≤ n by omega)
  have e : cuC f n = cuC f N ++ (f N ++ x) := by
    rw [hx]
    show cuC f N ++ f N ++ x = _
    rw [List.append_assoc]
  rw [e]
  refine ⟨by rw [List.length_append, List.length_append]; omega, ?_⟩
  rw [cg_r, cg_l ht]
theorem cuC_of : ∀ {n m : Nat}, m < (cuC f n).length → ∃ N t, N < n ∧ t < (f N).length ∧ m = (cuC f N).length + t
  | 0, m, h => absurd h (Nat.not_lt_zero m)
  | n + 1, m, h => by
    by_cases e : m < (cuC f n).length
    · obtain ⟨N, t, h1, h2, h3⟩ := cuC_of e
      exact ⟨N, t, by omega, h2, h3⟩
    · have e2 : (cuC f (n + 1)).length = (cuC f n).length + (f n).length := by
        show (cuC f n ++ f n).length = _
        rw [List.length_append]
      exact ⟨n, m - (cuC f n).length, Nat.lt_succ_self n, by omega, by omega⟩
/-- rows of one net, among those of all -/
def cuQr (f : Nat → List CuR) (M : Nat) (net : Int) (i : Nat) : Prop := cg (cuC f M) i 0 = net
theorem cuQr_z (hf : ∀ N t, t < (f N).length → cg (f N) t 0 = N) : ∀ {n : Nat}, n ≤ M → zct (cuQr f M net) (cuC f n).length = if 0 ≤ net ∧ net < n then (f net.toNat).length else 0
  | 0, _ => by
    rw [if_neg (by omega)]
    rfl
  | n + 1, hn => by
    have ih := cuQr_z hf (n := n) (by omega)
    have e2 : (cuC f (n + 1)).length = (cuC f n).length + (f n).length := by
      show (cuC f n ++ f n).length = _
      rw [List.length_append]
    have key : ∀ t, t ≤ (f n).length → zct (cuQr f M net) ((cuC f n).length + t) = zct (cuQr f M net) (cuC f n).length + if net = n then t else 0 := fun t => by
      induction t with
      | zero => intro _; split <;> rfl
      | succ t iht =>
        intro ht
        have w := (cuC_in (f := f) (c := 0) (show n < M by omega) (show t < (f n).length by omega)).2
        rw [hf n t (by omega)] at w
        have i2 := iht (by omega)
        rw [← Nat.add_assoc]
        by_cases q : net = n
        · rw [zct_t (show cuQr f M net ((cuC f n).length + t) from w.trans q.symm), i2, if_pos q, if_pos q]
          omega
        · rw [zct_f (fun (z : cuQr f M net ((cuC f n).length + t)) => q (z.symm.trans w)), i2, if_neg q, if_neg q]
    rw [e2, key _ (Nat.le_refl _), ih]
    by_cases q : net = n
    · subst q
      rw [if_neg (by omega), if_pos rfl, if_pos (by omega), Int.toNat_natCast]
      omega
    · rw [if_neg q]
      by_cases q2 : 0 ≤ net ∧ net < n
      · rw [if_pos q2, if_pos (by omega)]
        omega
      · rw [if_neg q2, if_neg (by omega)]
theorem cuQr_t (hf : ∀ N t, t < (f N).length → cg (f N) t 0 = N) {N t : Nat} (hN : N < M) (ht : t ≤ (f N).length) (e : net = N) : zct (cuQr f M net) ((cuC f N).length + t) = t := by
  have w0 := cuQr_z (net := net) hf (show N ≤ M by omega)
  rw [if_neg (by omega)] at w0
  induction t with
  | zero => exact w0
  | succ t ih =>
    have w := (cuC_in (f := f) (c := 0) hN (show t < (f N).length by omega)).2
    rw [hf N t (by omega)] at w
    rw [← Nat.add_assoc, zct_t (show cuQr f M net ((cuC f N).length + t) from w.trans e.symm), ih (by omega)]
end
theorem cuAL_f {w : List CuR} {pc : Nat} : ∀ N t, t < (cuAL w pc N).length → cg (cuAL w pc N) t 0 = N := fun N t ht => by
  unfold cuAL at ht ⊢
  rw [cuC_1] at ht
  have z := (cuC_in (f := fun t => [cuA1 w pc N t]) (N := t) (n := cuAn w pc N) (t := 0) (c := 0) ht (by show 0 < 1; omega)).2
  rw [cuC_1] at z
  exact z
theorem cuAL_l {w : List CuR} {pc N : Nat} : (cuAL w pc N).length = cuAn w pc N := cuC_1 _
theorem cuAL_c {w : List CuR} {pc N t c : Nat} (ht : t < cuAn w pc N) : cg (cuAL w pc N) t c = cuA1 w pc N t c := by
  have z := (cuC_in (f := fun t => [cuA1 w pc N t]) (N := t) (n := cuAn w pc N) (t := 0) (c := c) ht (by show 0 < 1; omega)).2
  rw [cuC_1] at z
  exact z
def cuQA (w : List CuR) (pc : Nat) (net : Int) (i : Nat) : Prop := cg (cuAA w pc) i 0 = net
/-- how many airlines a net has; an end of one -/
noncomputable def cuAc (w : List CuR) (pc : Nat) (net : Int) : Nat := if 0 ≤ net ∧ net < 12 then cuAn w pc net else 0
noncomputable def cuAe (w : List CuR) (pc : Nat) (net k wh : Int) : Int := if (0 ≤ k ∧ k < cuAc w pc net) ∧ (wh = 0 ∨ wh = 1) then (if wh = 0 then cuAr w pc net k.toNat / 60 else cuAr w pc net k.toNat % 60) else -1
theorem cuQA_c {w : List CuR} {pc : Nat} {net : Int} : zct (cuQA w pc net) (cuAA w pc).length = cuAc w pc net := by
  have z := cuQr_z (f := cuAL w pc) (M := 12) (net := net) cuAL_f (Nat.le_refl 12)
  unfold cuAc
  refine Eq.trans z ?_
  by_cases e : 0 ≤ net ∧ net < 12
  · rw [if_pos (by omega), if_pos e, cuAL_l, Int.toNat_of_nonneg e.1]
  · rw [if_neg (by omega), if_neg e]
theorem cuQA_y {w : List CuR} {pc m : Nat} {net k : Int} (hm : m < (cuAA w pc).length) (h : cuQA w pc net m) (hk : (zct (cuQA w pc net) m : Int) = k) : (0 ≤ k ∧ k < cuAc w pc net) ∧ cg (cuAA w pc) m 1 = cuAr w pc net k.toNat / 60 ∧ cg (cuAA w pc) m 2 = cuAr w pc net k.toNat % 60 := by
  obtain ⟨N, t, h1, h2, h3⟩ := cuC_of hm
  have w0 := (cuC_in (f := cuAL w pc) (c := 0) h1 h2).2
  rw [cuAL_f N t h2] at w0
  have e : net = N := by
    rw [← h3] at w0
    exact h.symm.trans w0
  have z := cuQr_t (f := cuAL w pc) (M := 12) (net := net) cuAL_f h1 (Nat.le_of_lt h2) e
  rw [← h3] at z
  have hk2 : k = t := by
    have z2 : zct (cuQA w pc net) m = t := z
    omega
  rw [cuAL_l] at h2
  subst hk2
  subst e
  have w1 := (cuC_in (f := cuAL w pc) (c := 1) h1 (by rw [cuAL_l]; exact h2)).2
  have w2 := (cuC_in (f := cuAL w pc) (c := 2) h1 (by rw [cuAL_l]; exact h2)).2
  rw [cuAL_c h2] at w1 w2
  rw [← h3] at w1 w2
  rw [Int.toNat_natCast]
  refine ⟨⟨by omega, ?_⟩, w1, w2⟩
  unfold cuAc
  rw [if_pos (by omega)]
  omega
theorem cuAe_y {w : List CuR} {pc m : Nat} {net k wh : Int} (hm : m < (cuAA w pc).length) (h : cuQA w pc net m) (hk : (zct (cuQA w pc net) m : Int) = k) (hw : wh = 0 ∨ wh = 1) : cuAe w pc net k wh = cg (cuAA w pc) m (1 + wh.toNat) := by
  have z := cuQA_y hm h hk
  unfold cuAe
  rw [if_pos ⟨z.1, hw⟩]
  rcases hw with q | q
  · subst q
    rw [if_pos rfl]
    exact z.2.1.symm
  · subst q
    rw [if_neg (by decide)]
    exact z.2.2.symm
theorem cuAe_n {w : List CuR} {pc : Nat} {net k wh : Int} (h : k < 0 ∨ (zct (cuQA w pc net) (cuAA w pc).length : Int) ≤ k ∨ ¬ (wh = 0 ∨ wh = 1)) : cuAe w pc net k wh = -1 := by
  unfold cuAe
  rw [cuQA_c] at h
  rw [if_neg (by omega)]
